theorem dX6_init_0 : decode cX6_init 0 = .ok (.aload_n 0, 1) := by decide +kernel
theorem dX6_init_1 : decode cX6_init 1 = .ok (.invokespecial 1, 3) := by decide +kernel
theorem dX6_init_4 : decode cX6_init 4 = .ok (.aload_n 0, 1) := by decide +kernel
theorem dX6_init_5 : decode cX6_init 5 = .ok (.bipush 32, 2) := by decide +kernel
theorem dX6_init_7 : decode cX6_init 7 = .ok (.newarray .int, 2) := by decide +kernel
theorem dX6_init_9 : decode cX6_init 9 = .ok (.putfield 7, 3) := by decide +kernel
theorem dX6_init_12 : decode cX6_init 12 = .ok (.aload_n 0, 1) := by decide +kernel
theorem dX6_init_13 : decode cX6_init 13 = .ok (.bipush 8, 2) := by decide +kernel
theorem dX6_init_15 : decode cX6_init 15 = .ok (.newarray .int, 2) := by decide +kernel
theorem dX6_init_17 : decode cX6_init 17 = .ok (.putfield 13, 3) := by decide +kernel
theorem dX6_init_20 : decode cX6_init 20 = .ok (.aload_n 0, 1) := by decide +kernel
theorem dX6_init_21 : decode cX6_init 21 = .ok (.bipush 12, 2) := by decide +kernel
theorem dX6_init_23 : decode cX6_init 23 = .ok (.newarray .int, 2) := by decide +kernel
theorem dX6_init_25 : decode cX6_init 25 = .ok (.putfield 16, 3) := by decide +kernel
theorem dX6_init_28 : decode cX6_init 28 = .ok (.aload_n 0, 1) := by decide +kernel
theorem dX6_init_29 : decode cX6_init 29 = .ok (.bipush 8, 2) := by decide +kernel
theorem dX6_init_31 : decode cX6_init 31 = .ok (.newarray .int, 2) := by decide +kernel
theorem dX6_init_33 : decode cX6_init 33 = .ok (.putfield 19, 3) := by decide +kernel
theorem dX6_init_36 : decode cX6_init 36 = .ok (.aload_n 0, 1) := by decide +kernel
theorem dX6_init_37 : decode cX6_init 37 = .ok (.bipush 12, 2) := by decide +kernel
theorem dX6_init_39 : decode cX6_init 39 = .ok (.newarray .int, 2) := by decide +kernel
theorem dX6_init_41 : decode cX6_init 41 = .ok (.putfield 22, 3) := by decide +kernel
theorem dX6_init_44 : decode cX6_init 44 = .ok (.aload_n 0, 1) := by decide +kernel
theorem dX6_init_45 : decode cX6_init 45 = .ok (.bipush 32, 2) := by decide +kernel
theorem dX6_init_47 : decode cX6_init 47 = .ok (.newarray .int, 2) := by decide +kernel
theorem dX6_init_49 : decode cX6_init 49 = .ok (.putfield 25, 3) := by decide +kernel
theorem dX6_init_52 : decode cX6_init 52 = .ok (.aload_n 0, 1) := by decide +kernel
theorem dX6_init_53 : decode cX6_init 53 = .ok (.bipush 64, 2) := by decide +kernel
theorem dX6_init_55 : decode cX6_init 55 = .ok (.newarray .int, 2) := by decide +kernel
theorem dX6_init_57 : decode cX6_init 57 = .ok (.putfield 28, 3) := by decide +kernel
theorem dX6_init_60 : decode cX6_init 60 = .ok (.aload_n 0, 1) := by decide +kernel
theorem dX6_init_61 : decode cX6_init 61 = .ok (.bipush 8, 2) := by decide +kernel
theorem dX6_init_63 : decode cX6_init 63 = .ok (.newarray .int, 2) := by decide +kernel
theorem dX6_init_65 : decode cX6_init 65 = .ok (.putfield 31, 3) := by decide +kernel
theorem dX6_init_68 : decode cX6_init 68 = .ok (.aload_n 0, 1) := by decide +kernel
theorem dX6_init_69 : decode cX6_init 69 = .ok (.bipush 8, 2) := by decide +kernel
theorem dX6_init_71 : decode cX6_init 71 = .ok (.newarray .int, 2) := by decide +kernel
theorem dX6_init_73 : decode cX6_init 73 = .ok (.putfield 34, 3) := by decide +kernel
theorem dX6_init_76 : decode cX6_init 76 = .ok (.aload_n 0, 1) := by decide +kernel
theorem dX6_init_77 : decode cX6_init 77 = .ok (.bipush 32, 2) := by decide +kernel
theorem dX6_init_79 : decode cX6_init 79 = .ok (.newarray .int, 2) := by decide +kernel
theorem dX6_init_81 : decode cX6_init 81 = .ok (.putfield 37, 3) := by decide +kernel
theorem dX6_init_84 : decode cX6_init 84 = .ok (.aload_n 0, 1) := by decide +kernel
theorem dX6_init_85 : decode cX6_init 85 = .ok (.bipush 8, 2) := by decide +kernel
theorem dX6_init_87 : decode cX6_init 87 = .ok (.newarray .int, 2) := by decide +kernel
theorem dX6_init_89 : decode cX6_init 89 = .ok (.putfield 40, 3) := by decide +kernel
theorem dX6_init_92 : decode cX6_init 92 = .ok (.aload_n 0, 1) := by decide +kernel
theorem dX6_init_93 : decode cX6_init 93 = .ok (.iconst (-1), 1) := by decide +kernel
theorem dX6_init_94 : decode cX6_init 94 = .ok (.putfield 43, 3) := by decide +kernel
theorem dX6_init_97 : decode cX6_init 97 = .ok (.aload_n 0, 1) := by decide +kernel
theorem dX6_init_98 : decode cX6_init 98 = .ok (.iconst (-1), 1) := by decide +kernel
theorem dX6_init_99 : decode cX6_init 99 = .ok (.putfield 47, 3) := by decide +kernel
theorem dX6_init_102 : decode cX6_init 102 = .ok (.return_, 1) := by decide +kernel
theorem dX6_in_0 : decode cX6_in 0 = .ok (.lload_n 0, 1) := by decide +kernel
theorem dX6_in_1 : decode cX6_in 1 = .ok (.lload_n 2, 1) := by decide +kernel
theorem dX6_in_2 : decode cX6_in 2 = .ok (.lcmp, 1) := by decide +kernel
theorem dX6_in_3 : decode cX6_in 3 = .ok (.ifCond .lt 14, 3) := by decide +kernel
theorem dX6_in_6 : decode cX6_in 6 = .ok (.lload_n 0, 1) := by decide +kernel
theorem dX6_in_7 : decode cX6_in 7 = .ok (.lload 4, 2) := by decide +kernel
theorem dX6_in_9 : decode cX6_in 9 = .ok (.lcmp, 1) := by decide +kernel
theorem dX6_in_10 : decode cX6_in 10 = .ok (.ifCond .gt 7, 3) := by decide +kernel
theorem dX6_in_13 : decode cX6_in 13 = .ok (.iconst 1, 1) := by decide +kernel
theorem dX6_in_14 : decode cX6_in 14 = .ok (.goto 4, 3) := by decide +kernel
theorem dX6_in_17 : decode cX6_in 17 = .ok (.iconst 0, 1) := by decide +kernel
theorem dX6_in_18 : decode cX6_in 18 = .ok (.ireturn, 1) := by decide +kernel
theorem dX6_letters_0 : decode cX6_letters 0 = .ok (.iconst 0, 1) := by decide +kernel
theorem dX6_letters_1 : decode cX6_letters 1 = .ok (.istore_n 3, 1) := by decide +kernel
theorem dX6_letters_2 : decode cX6_letters 2 = .ok (.iconst 1, 1) := by decide +kernel
theorem dX6_letters_3 : decode cX6_letters 3 = .ok (.istore 4, 2) := by decide +kernel
theorem dX6_letters_5 : decode cX6_letters 5 = .ok (.lload_n 1, 1) := by decide +kernel
theorem dX6_letters_6 : decode cX6_letters 6 = .ok (.lstore 5, 2) := by decide +kernel
theorem dX6_letters_8 : decode cX6_letters 8 = .ok (.iconst 0, 1) := by decide +kernel
theorem dX6_letters_9 : decode cX6_letters 9 = .ok (.istore 7, 2) := by decide +kernel
theorem dX6_letters_11 : decode cX6_letters 11 = .ok (.iload 7, 2) := by decide +kernel
theorem dX6_letters_13 : decode cX6_letters 13 = .ok (.bipush 8, 2) := by decide +kernel
theorem dX6_letters_15 : decode cX6_letters 15 = .ok (.if_icmp .ge 68, 3) := by decide +kernel
theorem dX6_letters_18 : decode cX6_letters 18 = .ok (.lload 5, 2) := by decide +kernel
theorem dX6_letters_20 : decode cX6_letters 20 = .ok (.ldc2_w 50, 3) := by decide +kernel
theorem dX6_letters_23 : decode cX6_letters 23 = .ok (.land, 1) := by decide +kernel
theorem dX6_letters_24 : decode cX6_letters 24 = .ok (.l2i, 1) := by decide +kernel
theorem dX6_letters_25 : decode cX6_letters 25 = .ok (.istore 8, 2) := by decide +kernel
theorem dX6_letters_27 : decode cX6_letters 27 = .ok (.lload 5, 2) := by decide +kernel
theorem dX6_letters_29 : decode cX6_letters 29 = .ok (.bipush 8, 2) := by decide +kernel
theorem dX6_letters_31 : decode cX6_letters 31 = .ok (.lushr, 1) := by decide +kernel
theorem dX6_letters_32 : decode cX6_letters 32 = .ok (.lstore 5, 2) := by decide +kernel
theorem dX6_letters_34 : decode cX6_letters 34 = .ok (.iload 4, 2) := by decide +kernel
theorem dX6_letters_36 : decode cX6_letters 36 = .ok (.ifCond .eq 25, 3) := by decide +kernel
theorem dX6_letters_39 : decode cX6_letters 39 = .ok (.iload 8, 2) := by decide +kernel
theorem dX6_letters_41 : decode cX6_letters 41 = .ok (.bipush 126, 2) := by decide +kernel
theorem dX6_letters_43 : decode cX6_letters 43 = .ok (.if_icmp .gt 18, 3) := by decide +kernel
theorem dX6_letters_46 : decode cX6_letters 46 = .ok (.iload 8, 2) := by decide +kernel
theorem dX6_letters_48 : decode cX6_letters 48 = .ok (.ifCond .eq 9, 3) := by decide +kernel
theorem dX6_letters_51 : decode cX6_letters 51 = .ok (.iload_n 3, 1) := by decide +kernel
theorem dX6_letters_52 : decode cX6_letters 52 = .ok (.iload 7, 2) := by decide +kernel
theorem dX6_letters_54 : decode cX6_letters 54 = .ok (.if_icmp .ne 7, 3) := by decide +kernel
theorem dX6_letters_57 : decode cX6_letters 57 = .ok (.iconst 1, 1) := by decide +kernel
theorem dX6_letters_58 : decode cX6_letters 58 = .ok (.goto 4, 3) := by decide +kernel
theorem dX6_letters_61 : decode cX6_letters 61 = .ok (.iconst 0, 1) := by decide +kernel
theorem dX6_letters_62 : decode cX6_letters 62 = .ok (.istore 4, 2) := by decide +kernel
theorem dX6_letters_64 : decode cX6_letters 64 = .ok (.iload_n 3, 1) := by decide +kernel
theorem dX6_letters_65 : decode cX6_letters 65 = .ok (.iload 8, 2) := by decide +kernel
theorem dX6_letters_67 : decode cX6_letters 67 = .ok (.ifCond .le 7, 3) := by decide +kernel
theorem dX6_letters_70 : decode cX6_letters 70 = .ok (.iconst 1, 1) := by decide +kernel
theorem dX6_letters_71 : decode cX6_letters 71 = .ok (.goto 4, 3) := by decide +kernel
theorem dX6_letters_74 : decode cX6_letters 74 = .ok (.iconst 0, 1) := by decide +kernel
theorem dX6_letters_75 : decode cX6_letters 75 = .ok (.iadd, 1) := by decide +kernel
theorem dX6_letters_76 : decode cX6_letters 76 = .ok (.istore_n 3, 1) := by decide +kernel
theorem dX6_letters_77 : decode cX6_letters 77 = .ok (.iinc 7 1, 3) := by decide +kernel
theorem dX6_letters_80 : decode cX6_letters 80 = .ok (.goto (-69), 3) := by decide +kernel
theorem dX6_letters_83 : decode cX6_letters 83 = .ok (.iload 4, 2) := by decide +kernel
theorem dX6_letters_85 : decode cX6_letters 85 = .ok (.ifCond .ne 6, 3) := by decide +kernel
theorem dX6_letters_88 : decode cX6_letters 88 = .ok (.bipush (-102), 2) := by decide +kernel
theorem dX6_letters_90 : decode cX6_letters 90 = .ok (.ireturn, 1) := by decide +kernel
theorem dX6_letters_91 : decode cX6_letters 91 = .ok (.aload_n 0, 1) := by decide +kernel
theorem dX6_letters_92 : decode cX6_letters 92 = .ok (.getfield 52, 3) := by decide +kernel
theorem dX6_letters_95 : decode cX6_letters 95 = .ok (.iload_n 3, 1) := by decide +kernel
theorem dX6_letters_96 : decode cX6_letters 96 = .ok (.iadd, 1) := by decide +kernel
theorem dX6_letters_97 : decode cX6_letters 97 = .ok (.bipush 32, 2) := by decide +kernel
theorem dX6_letters_99 : decode cX6_letters 99 = .ok (.if_icmp .le 6, 3) := by decide +kernel
theorem dX6_letters_102 : decode cX6_letters 102 = .ok (.bipush (-104), 2) := by decide +kernel
theorem dX6_letters_104 : decode cX6_letters 104 = .ok (.ireturn, 1) := by decide +kernel
theorem dX6_letters_105 : decode cX6_letters 105 = .ok (.iconst 0, 1) := by decide +kernel
theorem dX6_letters_106 : decode cX6_letters 106 = .ok (.istore 7, 2) := by decide +kernel
theorem dX6_letters_108 : decode cX6_letters 108 = .ok (.iload 7, 2) := by decide +kernel
theorem dX6_letters_110 : decode cX6_letters 110 = .ok (.iload_n 3, 1) := by decide +kernel
theorem dX6_letters_111 : decode cX6_letters 111 = .ok (.if_icmp .ge 40, 3) := by decide +kernel
theorem dX6_letters_114 : decode cX6_letters 114 = .ok (.aload_n 0, 1) := by decide +kernel
theorem dX6_letters_115 : decode cX6_letters 115 = .ok (.getfield 7, 3) := by decide +kernel
theorem dX6_letters_118 : decode cX6_letters 118 = .ok (.aload_n 0, 1) := by decide +kernel
theorem dX6_letters_119 : decode cX6_letters 119 = .ok (.getfield 52, 3) := by decide +kernel
theorem dX6_letters_122 : decode cX6_letters 122 = .ok (.lload_n 1, 1) := by decide +kernel
theorem dX6_letters_123 : decode cX6_letters 123 = .ok (.bipush 8, 2) := by decide +kernel
theorem dX6_letters_125 : decode cX6_letters 125 = .ok (.iload 7, 2) := by decide +kernel
theorem dX6_letters_127 : decode cX6_letters 127 = .ok (.imul, 1) := by decide +kernel
theorem dX6_letters_128 : decode cX6_letters 128 = .ok (.lushr, 1) := by decide +kernel
theorem dX6_letters_129 : decode cX6_letters 129 = .ok (.ldc2_w 50, 3) := by decide +kernel
theorem dX6_letters_132 : decode cX6_letters 132 = .ok (.land, 1) := by decide +kernel
theorem dX6_letters_133 : decode cX6_letters 133 = .ok (.l2i, 1) := by decide +kernel
theorem dX6_letters_134 : decode cX6_letters 134 = .ok (.iastore, 1) := by decide +kernel
theorem dX6_letters_135 : decode cX6_letters 135 = .ok (.aload_n 0, 1) := by decide +kernel
theorem dX6_letters_136 : decode cX6_letters 136 = .ok (.dup, 1) := by decide +kernel
theorem dX6_letters_137 : decode cX6_letters 137 = .ok (.getfield 52, 3) := by decide +kernel
theorem dX6_letters_140 : decode cX6_letters 140 = .ok (.iconst 1, 1) := by decide +kernel
theorem dX6_letters_141 : decode cX6_letters 141 = .ok (.iadd, 1) := by decide +kernel
theorem dX6_letters_142 : decode cX6_letters 142 = .ok (.putfield 52, 3) := by decide +kernel
theorem dX6_letters_145 : decode cX6_letters 145 = .ok (.iinc 7 1, 3) := by decide +kernel
theorem dX6_letters_148 : decode cX6_letters 148 = .ok (.goto (-40), 3) := by decide +kernel
theorem dX6_letters_151 : decode cX6_letters 151 = .ok (.aload_n 0, 1) := by decide +kernel
theorem dX6_letters_152 : decode cX6_letters 152 = .ok (.getfield 52, 3) := by decide +kernel
theorem dX6_letters_155 : decode cX6_letters 155 = .ok (.ireturn, 1) := by decide +kernel
theorem dX6_blank_0 : decode cX6_blank 0 = .ok (.aload_n 0, 1) := by decide +kernel
theorem dX6_blank_1 : decode cX6_blank 1 = .ok (.getfield 52, 3) := by decide +kernel
theorem dX6_blank_4 : decode cX6_blank 4 = .ok (.istore_n 1, 1) := by decide +kernel
theorem dX6_blank_5 : decode cX6_blank 5 = .ok (.aload_n 0, 1) := by decide +kernel
theorem dX6_blank_6 : decode cX6_blank 6 = .ok (.iconst 0, 1) := by decide +kernel
theorem dX6_blank_7 : decode cX6_blank 7 = .ok (.putfield 52, 3) := by decide +kernel
theorem dX6_blank_10 : decode cX6_blank 10 = .ok (.iload_n 1, 1) := by decide +kernel
theorem dX6_blank_11 : decode cX6_blank 11 = .ok (.ireturn, 1) := by decide +kernel
theorem dX6_goNext_0 : decode cX6_goNext 0 = .ok (.aload_n 0, 1) := by decide +kernel
theorem dX6_goNext_1 : decode cX6_goNext 1 = .ok (.getfield 55, 3) := by decide +kernel
theorem dX6_goNext_4 : decode cX6_goNext 4 = .ok (.ifCond .ne 12, 3) := by decide +kernel
theorem dX6_goNext_7 : decode cX6_goNext 7 = .ok (.aload_n 0, 1) := by decide +kernel
theorem dX6_goNext_8 : decode cX6_goNext 8 = .ok (.getfield 58, 3) := by decide +kernel
theorem dX6_goNext_11 : decode cX6_goNext 11 = .ok (.bipush 8, 2) := by decide +kernel
theorem dX6_goNext_13 : decode cX6_goNext 13 = .ok (.if_icmp .eq 18, 3) := by decide +kernel
theorem dX6_goNext_16 : decode cX6_goNext 16 = .ok (.aload_n 0, 1) := by decide +kernel
theorem dX6_goNext_17 : decode cX6_goNext 17 = .ok (.getfield 55, 3) := by decide +kernel
theorem dX6_goNext_20 : decode cX6_goNext 20 = .ok (.iconst 1, 1) := by decide +kernel
theorem dX6_goNext_21 : decode cX6_goNext 21 = .ok (.if_icmp .ne 14, 3) := by decide +kernel
theorem dX6_goNext_24 : decode cX6_goNext 24 = .ok (.aload_n 0, 1) := by decide +kernel
theorem dX6_goNext_25 : decode cX6_goNext 25 = .ok (.getfield 61, 3) := by decide +kernel
theorem dX6_goNext_28 : decode cX6_goNext 28 = .ok (.ifCond .eq 7, 3) := by decide +kernel
theorem dX6_goNext_31 : decode cX6_goNext 31 = .ok (.iconst 1, 1) := by decide +kernel
theorem dX6_goNext_32 : decode cX6_goNext 32 = .ok (.goto 4, 3) := by decide +kernel
theorem dX6_goNext_35 : decode cX6_goNext 35 = .ok (.iconst 0, 1) := by decide +kernel
theorem dX6_goNext_36 : decode cX6_goNext 36 = .ok (.istore_n 1, 1) := by decide +kernel
theorem dX6_goNext_37 : decode cX6_goNext 37 = .ok (.aload_n 0, 1) := by decide +kernel
theorem dX6_goNext_38 : decode cX6_goNext 38 = .ok (.dup, 1) := by decide +kernel
theorem dX6_goNext_39 : decode cX6_goNext 39 = .ok (.getfield 55, 3) := by decide +kernel
theorem dX6_goNext_42 : decode cX6_goNext 42 = .ok (.iload_n 1, 1) := by decide +kernel
theorem dX6_goNext_43 : decode cX6_goNext 43 = .ok (.ifCond .eq 7, 3) := by decide +kernel
theorem dX6_goNext_46 : decode cX6_goNext 46 = .ok (.iconst 1, 1) := by decide +kernel
theorem dX6_goNext_47 : decode cX6_goNext 47 = .ok (.goto 4, 3) := by decide +kernel
theorem dX6_goNext_50 : decode cX6_goNext 50 = .ok (.iconst 0, 1) := by decide +kernel
theorem dX6_goNext_51 : decode cX6_goNext 51 = .ok (.iadd, 1) := by decide +kernel
theorem dX6_goNext_52 : decode cX6_goNext 52 = .ok (.putfield 55, 3) := by decide +kernel
theorem dX6_goNext_55 : decode cX6_goNext 55 = .ok (.aload_n 0, 1) := by decide +kernel
theorem dX6_goNext_56 : decode cX6_goNext 56 = .ok (.iload_n 1, 1) := by decide +kernel
theorem dX6_goNext_57 : decode cX6_goNext 57 = .ok (.ifCond .eq 7, 3) := by decide +kernel
theorem dX6_goNext_60 : decode cX6_goNext 60 = .ok (.iconst 0, 1) := by decide +kernel
theorem dX6_goNext_61 : decode cX6_goNext 61 = .ok (.goto 7, 3) := by decide +kernel
theorem dX6_goNext_64 : decode cX6_goNext 64 = .ok (.aload_n 0, 1) := by decide +kernel
theorem dX6_goNext_65 : decode cX6_goNext 65 = .ok (.getfield 58, 3) := by decide +kernel
theorem dX6_goNext_68 : decode cX6_goNext 68 = .ok (.putfield 58, 3) := by decide +kernel
theorem dX6_goNext_71 : decode cX6_goNext 71 = .ok (.iload_n 1, 1) := by decide +kernel
theorem dX6_goNext_72 : decode cX6_goNext 72 = .ok (.ireturn, 1) := by decide +kernel
set_option maxRecDepth 20000 in
theorem ggX6_go_X6_goNext : GoodIn wsX6_go wsX6_goNext := goodIn_r _ [11, 3, 2, 4, 15, 16, 17, 18, 19, 20, 21, 22, 23, 24, 25, 26, 27, 28, 29, 30, 31, 32, 33, 34, 35, 36, 37, 38, 39, 40, 41, 42, 43, 44, 45, 46] (by decide +kernel) (by decide +kernel)
set_option maxRecDepth 20000 in
theorem gX6_go_X6_goNext : GoodIn wsX6_go (wsV RX6 64 RX6 yX6_goNext wsX6_goNext) := goodIn_app (goodIn_of _ (by decide +kernel)) ggX6_go_X6_goNext
set_option maxRecDepth 20000 in
theorem ggX6_go_X6_in : GoodIn wsX6_go wsX6_in := goodIn_r _ [14] (by decide +kernel) (by decide +kernel)
set_option maxRecDepth 20000 in
theorem gX6_go_X6_in : GoodIn wsX6_go (va_wsS RX6 70 yX6_in wsX6_in) := goodIn_app (goodIn_of _ (by decide +kernel)) ggX6_go_X6_in
theorem dX6_go_0 : decode cX6_go 0 = .ok (.iload_n 1, 1) := by decide +kernel
theorem dX6_go_1 : decode cX6_go 1 = .ok (.bipush 48, 2) := by decide +kernel
theorem dX6_go_3 : decode cX6_go 3 = .ok (.isub, 1) := by decide +kernel
theorem dX6_go_4 : decode cX6_go 4 = .ok (.istore_n 2, 1) := by decide +kernel
theorem dX6_go_5 : decode cX6_go 5 = .ok (.iload_n 1, 1) := by decide +kernel
theorem dX6_go_6 : decode cX6_go 6 = .ok (.bipush 59, 2) := by decide +kernel
theorem dX6_go_8 : decode cX6_go 8 = .ok (.if_icmp .ne 8, 3) := by decide +kernel
theorem dX6_go_11 : decode cX6_go 11 = .ok (.aload_n 0, 1) := by decide +kernel
theorem dX6_go_12 : decode cX6_go 12 = .ok (.invokevirtual 64, 3) := by decide +kernel
theorem dX6_go_15 : decode cX6_go 15 = .ok (.ireturn, 1) := by decide +kernel
theorem dX6_go_16 : decode cX6_go 16 = .ok (.iload_n 2, 1) := by decide +kernel
theorem dX6_go_17 : decode cX6_go 17 = .ok (.i2l, 1) := by decide +kernel
theorem dX6_go_18 : decode cX6_go 18 = .ok (.lconst 0, 1) := by decide +kernel
theorem dX6_go_19 : decode cX6_go 19 = .ok (.ldc2_w 68, 3) := by decide +kernel
theorem dX6_go_22 : decode cX6_go 22 = .ok (.invokestatic 70, 3) := by decide +kernel
theorem dX6_go_25 : decode cX6_go 25 = .ok (.ifCond .eq 54, 3) := by decide +kernel
theorem dX6_go_28 : decode cX6_go 28 = .ok (.aload_n 0, 1) := by decide +kernel
theorem dX6_go_29 : decode cX6_go 29 = .ok (.getfield 58, 3) := by decide +kernel
theorem dX6_go_32 : decode cX6_go 32 = .ok (.aload_n 0, 1) := by decide +kernel
theorem dX6_go_33 : decode cX6_go 33 = .ok (.getfield 55, 3) := by decide +kernel
theorem dX6_go_36 : decode cX6_go 36 = .ok (.iconst 2, 1) := by decide +kernel
theorem dX6_go_37 : decode cX6_go 37 = .ok (.if_icmp .ne 8, 3) := by decide +kernel
theorem dX6_go_40 : decode cX6_go 40 = .ok (.bipush 12, 2) := by decide +kernel
theorem dX6_go_42 : decode cX6_go 42 = .ok (.goto 5, 3) := by decide +kernel
theorem dX6_go_45 : decode cX6_go 45 = .ok (.bipush 8, 2) := by decide +kernel
theorem dX6_go_47 : decode cX6_go 47 = .ok (.if_icmp .ge 32, 3) := by decide +kernel
theorem dX6_go_50 : decode cX6_go 50 = .ok (.aload_n 0, 1) := by decide +kernel
theorem dX6_go_51 : decode cX6_go 51 = .ok (.getfield 55, 3) := by decide +kernel
theorem dX6_go_54 : decode cX6_go 54 = .ok (.iconst 1, 1) := by decide +kernel
theorem dX6_go_55 : decode cX6_go 55 = .ok (.if_icmp .ne 20, 3) := by decide +kernel
theorem dX6_go_58 : decode cX6_go 58 = .ok (.iload_n 2, 1) := by decide +kernel
theorem dX6_go_59 : decode cX6_go 59 = .ok (.bipush 8, 2) := by decide +kernel
theorem dX6_go_61 : decode cX6_go 61 = .ok (.if_icmp .ge 18, 3) := by decide +kernel
theorem dX6_go_64 : decode cX6_go 64 = .ok (.aload_n 0, 1) := by decide +kernel
theorem dX6_go_65 : decode cX6_go 65 = .ok (.getfield 61, 3) := by decide +kernel
theorem dX6_go_68 : decode cX6_go 68 = .ok (.iload_n 2, 1) := by decide +kernel
theorem dX6_go_69 : decode cX6_go 69 = .ok (.ishr, 1) := by decide +kernel
theorem dX6_go_70 : decode cX6_go 70 = .ok (.iconst 1, 1) := by decide +kernel
theorem dX6_go_71 : decode cX6_go 71 = .ok (.iand, 1) := by decide +kernel
theorem dX6_go_72 : decode cX6_go 72 = .ok (.ifCond .ne 7, 3) := by decide +kernel
theorem dX6_go_75 : decode cX6_go 75 = .ok (.iconst 1, 1) := by decide +kernel
theorem dX6_go_76 : decode cX6_go 76 = .ok (.goto 4, 3) := by decide +kernel
theorem dX6_go_79 : decode cX6_go 79 = .ok (.iconst 0, 1) := by decide +kernel
theorem dX6_go_80 : decode cX6_go 80 = .ok (.istore_n 3, 1) := by decide +kernel
theorem dX6_go_81 : decode cX6_go 81 = .ok (.iload_n 3, 1) := by decide +kernel
theorem dX6_go_82 : decode cX6_go 82 = .ok (.ifCond .eq 20, 3) := by decide +kernel
theorem dX6_go_85 : decode cX6_go 85 = .ok (.aload_n 0, 1) := by decide +kernel
theorem dX6_go_86 : decode cX6_go 86 = .ok (.getfield 55, 3) := by decide +kernel
theorem dX6_go_89 : decode cX6_go 89 = .ok (.ifCond .ne 13, 3) := by decide +kernel
theorem dX6_go_92 : decode cX6_go 92 = .ok (.aload_n 0, 1) := by decide +kernel
theorem dX6_go_93 : decode cX6_go 93 = .ok (.getfield 13, 3) := by decide +kernel
theorem dX6_go_96 : decode cX6_go 96 = .ok (.aload_n 0, 1) := by decide +kernel
theorem dX6_go_97 : decode cX6_go 97 = .ok (.getfield 58, 3) := by decide +kernel
theorem dX6_go_100 : decode cX6_go 100 = .ok (.iload_n 2, 1) := by decide +kernel
theorem dX6_go_101 : decode cX6_go 101 = .ok (.iastore, 1) := by decide +kernel
theorem dX6_go_102 : decode cX6_go 102 = .ok (.iload_n 3, 1) := by decide +kernel
theorem dX6_go_103 : decode cX6_go 103 = .ok (.ifCond .eq 23, 3) := by decide +kernel
theorem dX6_go_106 : decode cX6_go 106 = .ok (.aload_n 0, 1) := by decide +kernel
theorem dX6_go_107 : decode cX6_go 107 = .ok (.getfield 55, 3) := by decide +kernel
theorem dX6_go_110 : decode cX6_go 110 = .ok (.iconst 1, 1) := by decide +kernel
theorem dX6_go_111 : decode cX6_go 111 = .ok (.if_icmp .ne 15, 3) := by decide +kernel
theorem dX6_go_114 : decode cX6_go 114 = .ok (.aload_n 0, 1) := by decide +kernel
theorem dX6_go_115 : decode cX6_go 115 = .ok (.dup, 1) := by decide +kernel
theorem dX6_go_116 : decode cX6_go 116 = .ok (.getfield 61, 3) := by decide +kernel
theorem dX6_go_119 : decode cX6_go 119 = .ok (.iconst 1, 1) := by decide +kernel
theorem dX6_go_120 : decode cX6_go 120 = .ok (.iload_n 2, 1) := by decide +kernel
theorem dX6_go_121 : decode cX6_go 121 = .ok (.ishl, 1) := by decide +kernel
theorem dX6_go_122 : decode cX6_go 122 = .ok (.ior, 1) := by decide +kernel
theorem dX6_go_123 : decode cX6_go 123 = .ok (.putfield 61, 3) := by decide +kernel
theorem dX6_go_126 : decode cX6_go 126 = .ok (.iload_n 3, 1) := by decide +kernel
theorem dX6_go_127 : decode cX6_go 127 = .ok (.ifCond .eq 21, 3) := by decide +kernel
theorem dX6_go_130 : decode cX6_go 130 = .ok (.aload_n 0, 1) := by decide +kernel
theorem dX6_go_131 : decode cX6_go 131 = .ok (.getfield 55, 3) := by decide +kernel
theorem dX6_go_134 : decode cX6_go 134 = .ok (.iconst 2, 1) := by decide +kernel
theorem dX6_go_135 : decode cX6_go 135 = .ok (.if_icmp .ne 13, 3) := by decide +kernel
theorem dX6_go_138 : decode cX6_go 138 = .ok (.aload_n 0, 1) := by decide +kernel
theorem dX6_go_139 : decode cX6_go 139 = .ok (.getfield 16, 3) := by decide +kernel
theorem dX6_go_142 : decode cX6_go 142 = .ok (.aload_n 0, 1) := by decide +kernel
theorem dX6_go_143 : decode cX6_go 143 = .ok (.getfield 58, 3) := by decide +kernel
theorem dX6_go_146 : decode cX6_go 146 = .ok (.iload_n 2, 1) := by decide +kernel
theorem dX6_go_147 : decode cX6_go 147 = .ok (.iastore, 1) := by decide +kernel
theorem dX6_go_148 : decode cX6_go 148 = .ok (.aload_n 0, 1) := by decide +kernel
theorem dX6_go_149 : decode cX6_go 149 = .ok (.dup, 1) := by decide +kernel
theorem dX6_go_150 : decode cX6_go 150 = .ok (.getfield 58, 3) := by decide +kernel
theorem dX6_go_153 : decode cX6_go 153 = .ok (.iload_n 3, 1) := by decide +kernel
theorem dX6_go_154 : decode cX6_go 154 = .ok (.ifCond .eq 7, 3) := by decide +kernel
theorem dX6_go_157 : decode cX6_go 157 = .ok (.iconst 1, 1) := by decide +kernel
theorem dX6_go_158 : decode cX6_go 158 = .ok (.goto 4, 3) := by decide +kernel
theorem dX6_go_161 : decode cX6_go 161 = .ok (.iconst 0, 1) := by decide +kernel
theorem dX6_go_162 : decode cX6_go 162 = .ok (.iadd, 1) := by decide +kernel
theorem dX6_go_163 : decode cX6_go 163 = .ok (.putfield 58, 3) := by decide +kernel
theorem dX6_go_166 : decode cX6_go 166 = .ok (.iload_n 3, 1) := by decide +kernel
theorem dX6_go_167 : decode cX6_go 167 = .ok (.ireturn, 1) := by decide +kernel
set_option maxRecDepth 20000 in
theorem ggX6_faultOf_X6_go : GoodIn wsX6_faultOf wsX6_go := goodIn_r _ [10, 11, 2, 3, 1, 12, 13, 14, 15, 16, 9, 17, 18, 19, 20, 21, 22, 23, 24, 25, 26, 27, 28, 29, 30, 31, 32, 33, 34, 35, 36, 37, 38, 39, 40, 41, 42, 43, 44, 45, 46, 47, 48, 49, 50, 51, 52] (by decide +kernel) (by decide +kernel)
set_option maxRecDepth 20000 in
theorem gX6_faultOf_X6_go : GoodIn wsX6_faultOf (wsV RX6 74 RX6 yX6_go wsX6_go) := goodIn_app (goodIn_of _ (by decide +kernel)) ggX6_faultOf_X6_go
theorem dX6_faultOf_0 : decode cX6_faultOf 0 = .ok (.aload_n 0, 1) := by decide +kernel
theorem dX6_faultOf_1 : decode cX6_faultOf 1 = .ok (.iconst 0, 1) := by decide +kernel
theorem dX6_faultOf_2 : decode cX6_faultOf 2 = .ok (.putfield 61, 3) := by decide +kernel
theorem dX6_faultOf_5 : decode cX6_faultOf 5 = .ok (.aload_n 0, 1) := by decide +kernel
theorem dX6_faultOf_6 : decode cX6_faultOf 6 = .ok (.iconst 0, 1) := by decide +kernel
theorem dX6_faultOf_7 : decode cX6_faultOf 7 = .ok (.putfield 58, 3) := by decide +kernel
theorem dX6_faultOf_10 : decode cX6_faultOf 10 = .ok (.aload_n 0, 1) := by decide +kernel
theorem dX6_faultOf_11 : decode cX6_faultOf 11 = .ok (.iconst 0, 1) := by decide +kernel
theorem dX6_faultOf_12 : decode cX6_faultOf 12 = .ok (.putfield 55, 3) := by decide +kernel
theorem dX6_faultOf_15 : decode cX6_faultOf 15 = .ok (.iconst 0, 1) := by decide +kernel
theorem dX6_faultOf_16 : decode cX6_faultOf 16 = .ok (.istore_n 1, 1) := by decide +kernel
theorem dX6_faultOf_17 : decode cX6_faultOf 17 = .ok (.iload_n 1, 1) := by decide +kernel
theorem dX6_faultOf_18 : decode cX6_faultOf 18 = .ok (.aload_n 0, 1) := by decide +kernel
theorem dX6_faultOf_19 : decode cX6_faultOf 19 = .ok (.getfield 52, 3) := by decide +kernel
theorem dX6_faultOf_22 : decode cX6_faultOf 22 = .ok (.if_icmp .ge 22, 3) := by decide +kernel
theorem dX6_faultOf_25 : decode cX6_faultOf 25 = .ok (.aload_n 0, 1) := by decide +kernel
theorem dX6_faultOf_26 : decode cX6_faultOf 26 = .ok (.aload_n 0, 1) := by decide +kernel
theorem dX6_faultOf_27 : decode cX6_faultOf 27 = .ok (.getfield 7, 3) := by decide +kernel
theorem dX6_faultOf_30 : decode cX6_faultOf 30 = .ok (.iload_n 1, 1) := by decide +kernel
theorem dX6_faultOf_31 : decode cX6_faultOf 31 = .ok (.iaload, 1) := by decide +kernel
theorem dX6_faultOf_32 : decode cX6_faultOf 32 = .ok (.invokevirtual 74, 3) := by decide +kernel
theorem dX6_faultOf_35 : decode cX6_faultOf 35 = .ok (.ifCond .eq 9, 3) := by decide +kernel
theorem dX6_faultOf_38 : decode cX6_faultOf 38 = .ok (.iinc 1 1, 3) := by decide +kernel
theorem dX6_faultOf_41 : decode cX6_faultOf 41 = .ok (.goto (-24), 3) := by decide +kernel
theorem dX6_faultOf_44 : decode cX6_faultOf 44 = .ok (.iload_n 1, 1) := by decide +kernel
theorem dX6_faultOf_45 : decode cX6_faultOf 45 = .ok (.ireturn, 1) := by decide +kernel
set_option maxRecDepth 20000 in
theorem ggX6_fault_X6_faultOf : GoodIn wsX6_fault wsX6_faultOf := goodIn_r _ [5, 6, 7, 8, 9, 10, 11, 12, 13, 4, 14, 15, 16, 17, 18, 19, 20, 21, 22, 23, 24, 25, 26, 27, 28, 29, 30, 31, 32, 33, 34, 35, 36, 37, 38, 39, 40, 41, 42, 43, 44, 45, 46, 47, 48, 49, 50, 51, 52, 53, 54, 55, 56] (by decide +kernel) (by decide +kernel)
set_option maxRecDepth 20000 in
theorem gX6_fault_X6_faultOf : GoodIn wsX6_fault (wsV RX6 78 RX6 yX6_faultOf wsX6_faultOf) := goodIn_app (goodIn_of _ (by decide +kernel)) ggX6_fault_X6_faultOf
theorem dX6_fault_0 : decode cX6_fault 0 = .ok (.aload_n 0, 1) := by decide +kernel
theorem dX6_fault_1 : decode cX6_fault 1 = .ok (.invokevirtual 78, 3) := by decide +kernel
theorem dX6_fault_4 : decode cX6_fault 4 = .ok (.ireturn, 1) := by decide +kernel
set_option maxRecDepth 20000 in
theorem ggX6_shore_X6_faultOf : GoodIn wsX6_shore wsX6_faultOf := goodIn_r _ [20, 9, 3, 2, 1, 21, 22, 23, 24, 19, 25, 26, 5, 7, 27, 28, 29, 30, 31, 32, 33, 34, 35, 36, 37, 38, 39, 40, 41, 42, 43, 44, 45, 46, 47, 48, 49, 50, 51, 52, 53, 54, 55, 56, 57, 58, 59, 60, 61, 62, 63, 64, 65] (by decide +kernel) (by decide +kernel)
set_option maxRecDepth 20000 in
theorem gX6_shore_X6_faultOf : GoodIn wsX6_shore (wsV RX6 78 RX6 yX6_faultOf wsX6_faultOf) := goodIn_app (goodIn_of _ (by decide +kernel)) ggX6_shore_X6_faultOf
theorem dX6_shore_0 : decode cX6_shore 0 = .ok (.aload_n 0, 1) := by decide +kernel
theorem dX6_shore_1 : decode cX6_shore 1 = .ok (.invokevirtual 78, 3) := by decide +kernel
theorem dX6_shore_4 : decode cX6_shore 4 = .ok (.aload_n 0, 1) := by decide +kernel
theorem dX6_shore_5 : decode cX6_shore 5 = .ok (.getfield 52, 3) := by decide +kernel
theorem dX6_shore_8 : decode cX6_shore 8 = .ok (.if_icmp .lt 19, 3) := by decide +kernel
theorem dX6_shore_11 : decode cX6_shore 11 = .ok (.aload_n 0, 1) := by decide +kernel
theorem dX6_shore_12 : decode cX6_shore 12 = .ok (.getfield 55, 3) := by decide +kernel
theorem dX6_shore_15 : decode cX6_shore 15 = .ok (.iconst 2, 1) := by decide +kernel
theorem dX6_shore_16 : decode cX6_shore 16 = .ok (.if_icmp .ne 11, 3) := by decide +kernel
theorem dX6_shore_19 : decode cX6_shore 19 = .ok (.aload_n 0, 1) := by decide +kernel
theorem dX6_shore_20 : decode cX6_shore 20 = .ok (.getfield 58, 3) := by decide +kernel
theorem dX6_shore_23 : decode cX6_shore 23 = .ok (.iconst 2, 1) := by decide +kernel
theorem dX6_shore_24 : decode cX6_shore 24 = .ok (.if_icmp .ge 6, 3) := by decide +kernel
theorem dX6_shore_27 : decode cX6_shore 27 = .ok (.bipush (-103), 2) := by decide +kernel
theorem dX6_shore_29 : decode cX6_shore 29 = .ok (.ireturn, 1) := by decide +kernel
theorem dX6_shore_30 : decode cX6_shore 30 = .ok (.iconst 0, 1) := by decide +kernel
theorem dX6_shore_31 : decode cX6_shore 31 = .ok (.istore_n 1, 1) := by decide +kernel
theorem dX6_shore_32 : decode cX6_shore 32 = .ok (.iload_n 1, 1) := by decide +kernel
theorem dX6_shore_33 : decode cX6_shore 33 = .ok (.bipush 8, 2) := by decide +kernel
theorem dX6_shore_35 : decode cX6_shore 35 = .ok (.if_icmp .ge 21, 3) := by decide +kernel
theorem dX6_shore_38 : decode cX6_shore 38 = .ok (.aload_n 0, 1) := by decide +kernel
theorem dX6_shore_39 : decode cX6_shore 39 = .ok (.getfield 19, 3) := by decide +kernel
theorem dX6_shore_42 : decode cX6_shore 42 = .ok (.iload_n 1, 1) := by decide +kernel
theorem dX6_shore_43 : decode cX6_shore 43 = .ok (.aload_n 0, 1) := by decide +kernel
theorem dX6_shore_44 : decode cX6_shore 44 = .ok (.getfield 13, 3) := by decide +kernel
theorem dX6_shore_47 : decode cX6_shore 47 = .ok (.iload_n 1, 1) := by decide +kernel
theorem dX6_shore_48 : decode cX6_shore 48 = .ok (.iaload, 1) := by decide +kernel
theorem dX6_shore_49 : decode cX6_shore 49 = .ok (.iastore, 1) := by decide +kernel
theorem dX6_shore_50 : decode cX6_shore 50 = .ok (.iinc 1 1, 3) := by decide +kernel
theorem dX6_shore_53 : decode cX6_shore 53 = .ok (.goto (-21), 3) := by decide +kernel
theorem dX6_shore_56 : decode cX6_shore 56 = .ok (.iconst 0, 1) := by decide +kernel
theorem dX6_shore_57 : decode cX6_shore 57 = .ok (.istore_n 1, 1) := by decide +kernel
theorem dX6_shore_58 : decode cX6_shore 58 = .ok (.iload_n 1, 1) := by decide +kernel
theorem dX6_shore_59 : decode cX6_shore 59 = .ok (.bipush 12, 2) := by decide +kernel
theorem dX6_shore_61 : decode cX6_shore 61 = .ok (.if_icmp .ge 21, 3) := by decide +kernel
theorem dX6_shore_64 : decode cX6_shore 64 = .ok (.aload_n 0, 1) := by decide +kernel
theorem dX6_shore_65 : decode cX6_shore 65 = .ok (.getfield 22, 3) := by decide +kernel
theorem dX6_shore_68 : decode cX6_shore 68 = .ok (.iload_n 1, 1) := by decide +kernel
theorem dX6_shore_69 : decode cX6_shore 69 = .ok (.aload_n 0, 1) := by decide +kernel
theorem dX6_shore_70 : decode cX6_shore 70 = .ok (.getfield 16, 3) := by decide +kernel
theorem dX6_shore_73 : decode cX6_shore 73 = .ok (.iload_n 1, 1) := by decide +kernel
theorem dX6_shore_74 : decode cX6_shore 74 = .ok (.iaload, 1) := by decide +kernel
theorem dX6_shore_75 : decode cX6_shore 75 = .ok (.iastore, 1) := by decide +kernel
theorem dX6_shore_76 : decode cX6_shore 76 = .ok (.iinc 1 1, 3) := by decide +kernel
theorem dX6_shore_79 : decode cX6_shore 79 = .ok (.goto (-21), 3) := by decide +kernel
theorem dX6_shore_82 : decode cX6_shore 82 = .ok (.aload_n 0, 1) := by decide +kernel
theorem dX6_shore_83 : decode cX6_shore 83 = .ok (.aload_n 0, 1) := by decide +kernel
theorem dX6_shore_84 : decode cX6_shore 84 = .ok (.getfield 58, 3) := by decide +kernel
theorem dX6_shore_87 : decode cX6_shore 87 = .ok (.putfield 82, 3) := by decide +kernel
theorem dX6_shore_90 : decode cX6_shore 90 = .ok (.aload_n 0, 1) := by decide +kernel
theorem dX6_shore_91 : decode cX6_shore 91 = .ok (.aload_n 0, 1) := by decide +kernel
theorem dX6_shore_92 : decode cX6_shore 92 = .ok (.getfield 61, 3) := by decide +kernel
theorem dX6_shore_95 : decode cX6_shore 95 = .ok (.putfield 85, 3) := by decide +kernel
theorem dX6_shore_98 : decode cX6_shore 98 = .ok (.aload_n 0, 1) := by decide +kernel
theorem dX6_shore_99 : decode cX6_shore 99 = .ok (.iconst 0, 1) := by decide +kernel
theorem dX6_shore_100 : decode cX6_shore 100 = .ok (.putfield 88, 3) := by decide +kernel
theorem dX6_shore_103 : decode cX6_shore 103 = .ok (.aload_n 0, 1) := by decide +kernel
theorem dX6_shore_104 : decode cX6_shore 104 = .ok (.iconst (-1), 1) := by decide +kernel
theorem dX6_shore_105 : decode cX6_shore 105 = .ok (.putfield 47, 3) := by decide +kernel
theorem dX6_shore_108 : decode cX6_shore 108 = .ok (.aload_n 0, 1) := by decide +kernel
theorem dX6_shore_109 : decode cX6_shore 109 = .ok (.iconst 0, 1) := by decide +kernel
theorem dX6_shore_110 : decode cX6_shore 110 = .ok (.putfield 91, 3) := by decide +kernel
theorem dX6_shore_113 : decode cX6_shore 113 = .ok (.aload_n 0, 1) := by decide +kernel
theorem dX6_shore_114 : decode cX6_shore 114 = .ok (.iconst 0, 1) := by decide +kernel
theorem dX6_shore_115 : decode cX6_shore 115 = .ok (.putfield 94, 3) := by decide +kernel
theorem dX6_shore_118 : decode cX6_shore 118 = .ok (.aload_n 0, 1) := by decide +kernel
theorem dX6_shore_119 : decode cX6_shore 119 = .ok (.dup, 1) := by decide +kernel
theorem dX6_shore_120 : decode cX6_shore 120 = .ok (.getfield 97, 3) := by decide +kernel
theorem dX6_shore_123 : decode cX6_shore 123 = .ok (.iconst 1, 1) := by decide +kernel
theorem dX6_shore_124 : decode cX6_shore 124 = .ok (.iadd, 1) := by decide +kernel
theorem dX6_shore_125 : decode cX6_shore 125 = .ok (.putfield 97, 3) := by decide +kernel
theorem dX6_shore_128 : decode cX6_shore 128 = .ok (.aload_n 0, 1) := by decide +kernel
theorem dX6_shore_129 : decode cX6_shore 129 = .ok (.iconst 0, 1) := by decide +kernel
theorem dX6_shore_130 : decode cX6_shore 130 = .ok (.putfield 52, 3) := by decide +kernel
theorem dX6_shore_133 : decode cX6_shore 133 = .ok (.aload_n 0, 1) := by decide +kernel
theorem dX6_shore_134 : decode cX6_shore 134 = .ok (.getfield 82, 3) := by decide +kernel
theorem dX6_shore_137 : decode cX6_shore 137 = .ok (.ireturn, 1) := by decide +kernel
theorem dX6_lacks_0 : decode cX6_lacks 0 = .ok (.aload_n 0, 1) := by decide +kernel
theorem dX6_lacks_1 : decode cX6_lacks 1 = .ok (.getfield 82, 3) := by decide +kernel
theorem dX6_lacks_4 : decode cX6_lacks 4 = .ok (.ifCond .ne 7, 3) := by decide +kernel
theorem dX6_lacks_7 : decode cX6_lacks 7 = .ok (.iconst 1, 1) := by decide +kernel
theorem dX6_lacks_8 : decode cX6_lacks 8 = .ok (.goto 4, 3) := by decide +kernel
theorem dX6_lacks_11 : decode cX6_lacks 11 = .ok (.iconst 0, 1) := by decide +kernel
theorem dX6_lacks_12 : decode cX6_lacks 12 = .ok (.ireturn, 1) := by decide +kernel
set_option maxRecDepth 20000 in
theorem ggX6_isCell_X6_in : GoodIn wsX6_isCell wsX6_in := goodIn_r _ [5] (by decide +kernel) (by decide +kernel)
set_option maxRecDepth 20000 in
theorem gX6_isCell_X6_in : GoodIn wsX6_isCell (va_wsS RX6 70 yX6_in wsX6_in) := goodIn_app (goodIn_of _ (by decide +kernel)) ggX6_isCell_X6_in
theorem dX6_isCell_0 : decode cX6_isCell 0 = .ok (.iload_n 0, 1) := by decide +kernel
theorem dX6_isCell_1 : decode cX6_isCell 1 = .ok (.i2l, 1) := by decide +kernel
theorem dX6_isCell_2 : decode cX6_isCell 2 = .ok (.lconst 0, 1) := by decide +kernel
theorem dX6_isCell_3 : decode cX6_isCell 3 = .ok (.ldc2_w 100, 3) := by decide +kernel
theorem dX6_isCell_6 : decode cX6_isCell 6 = .ok (.invokestatic 70, 3) := by decide +kernel
theorem dX6_isCell_9 : decode cX6_isCell 9 = .ok (.ireturn, 1) := by decide +kernel
theorem dX6_heightAt_0 : decode cX6_heightAt 0 = .ok (.aload_n 0, 1) := by decide +kernel
theorem dX6_heightAt_1 : decode cX6_heightAt 1 = .ok (.getfield 22, 3) := by decide +kernel
theorem dX6_heightAt_4 : decode cX6_heightAt 4 = .ok (.iload_n 1, 1) := by decide +kernel
theorem dX6_heightAt_5 : decode cX6_heightAt 5 = .ok (.aload_n 0, 1) := by decide +kernel
theorem dX6_heightAt_6 : decode cX6_heightAt 6 = .ok (.getfield 82, 3) := by decide +kernel
theorem dX6_heightAt_9 : decode cX6_heightAt 9 = .ok (.irem, 1) := by decide +kernel
theorem dX6_heightAt_10 : decode cX6_heightAt 10 = .ok (.iaload, 1) := by decide +kernel
theorem dX6_heightAt_11 : decode cX6_heightAt 11 = .ok (.ireturn, 1) := by decide +kernel
theorem dX6_levelOf_0 : decode cX6_levelOf 0 = .ok (.iload_n 2, 1) := by decide +kernel
theorem dX6_levelOf_1 : decode cX6_levelOf 1 = .ok (.iconst (-1), 1) := by decide +kernel
theorem dX6_levelOf_2 : decode cX6_levelOf 2 = .ok (.if_icmp .ne 7, 3) := by decide +kernel
theorem dX6_levelOf_5 : decode cX6_levelOf 5 = .ok (.iconst 0, 1) := by decide +kernel
theorem dX6_levelOf_6 : decode cX6_levelOf 6 = .ok (.goto 31, 3) := by decide +kernel
theorem dX6_levelOf_9 : decode cX6_levelOf 9 = .ok (.iload_n 1, 1) := by decide +kernel
theorem dX6_levelOf_10 : decode cX6_levelOf 10 = .ok (.iload_n 2, 1) := by decide +kernel
theorem dX6_levelOf_11 : decode cX6_levelOf 11 = .ok (.if_icmp .ne 7, 3) := by decide +kernel
theorem dX6_levelOf_14 : decode cX6_levelOf 14 = .ok (.iconst 2, 1) := by decide +kernel
theorem dX6_levelOf_15 : decode cX6_levelOf 15 = .ok (.goto 22, 3) := by decide +kernel
theorem dX6_levelOf_18 : decode cX6_levelOf 18 = .ok (.iload_n 1, 1) := by decide +kernel
theorem dX6_levelOf_19 : decode cX6_levelOf 19 = .ok (.iload_n 2, 1) := by decide +kernel
theorem dX6_levelOf_20 : decode cX6_levelOf 20 = .ok (.iconst 1, 1) := by decide +kernel
theorem dX6_levelOf_21 : decode cX6_levelOf 21 = .ok (.isub, 1) := by decide +kernel
theorem dX6_levelOf_22 : decode cX6_levelOf 22 = .ok (.if_icmp .eq 10, 3) := by decide +kernel
theorem dX6_levelOf_25 : decode cX6_levelOf 25 = .ok (.iload_n 1, 1) := by decide +kernel
theorem dX6_levelOf_26 : decode cX6_levelOf 26 = .ok (.iload_n 2, 1) := by decide +kernel
theorem dX6_levelOf_27 : decode cX6_levelOf 27 = .ok (.iconst 1, 1) := by decide +kernel
theorem dX6_levelOf_28 : decode cX6_levelOf 28 = .ok (.iadd, 1) := by decide +kernel
theorem dX6_levelOf_29 : decode cX6_levelOf 29 = .ok (.if_icmp .ne 7, 3) := by decide +kernel
theorem dX6_levelOf_32 : decode cX6_levelOf 32 = .ok (.iconst 1, 1) := by decide +kernel
theorem dX6_levelOf_33 : decode cX6_levelOf 33 = .ok (.goto 4, 3) := by decide +kernel
theorem dX6_levelOf_36 : decode cX6_levelOf 36 = .ok (.iconst 0, 1) := by decide +kernel
theorem dX6_levelOf_37 : decode cX6_levelOf 37 = .ok (.istore_n 3, 1) := by decide +kernel
theorem dX6_levelOf_38 : decode cX6_levelOf 38 = .ok (.aload_n 0, 1) := by decide +kernel
theorem dX6_levelOf_39 : decode cX6_levelOf 39 = .ok (.getfield 19, 3) := by decide +kernel
theorem dX6_levelOf_42 : decode cX6_levelOf 42 = .ok (.iload_n 1, 1) := by decide +kernel
theorem dX6_levelOf_43 : decode cX6_levelOf 43 = .ok (.iaload, 1) := by decide +kernel
theorem dX6_levelOf_44 : decode cX6_levelOf 44 = .ok (.iload_n 3, 1) := by decide +kernel
theorem dX6_levelOf_45 : decode cX6_levelOf 45 = .ok (.if_icmp .le 14, 3) := by decide +kernel
theorem dX6_levelOf_48 : decode cX6_levelOf 48 = .ok (.aload_n 0, 1) := by decide +kernel
theorem dX6_levelOf_49 : decode cX6_levelOf 49 = .ok (.getfield 19, 3) := by decide +kernel
theorem dX6_levelOf_52 : decode cX6_levelOf 52 = .ok (.iload_n 1, 1) := by decide +kernel
theorem dX6_levelOf_53 : decode cX6_levelOf 53 = .ok (.iaload, 1) := by decide +kernel
theorem dX6_levelOf_54 : decode cX6_levelOf 54 = .ok (.iload_n 3, 1) := by decide +kernel
theorem dX6_levelOf_55 : decode cX6_levelOf 55 = .ok (.isub, 1) := by decide +kernel
theorem dX6_levelOf_56 : decode cX6_levelOf 56 = .ok (.goto 4, 3) := by decide +kernel
theorem dX6_levelOf_59 : decode cX6_levelOf 59 = .ok (.iconst 0, 1) := by decide +kernel
theorem dX6_levelOf_60 : decode cX6_levelOf 60 = .ok (.ireturn, 1) := by decide +kernel
set_option maxRecDepth 20000 in
theorem ggX6_isDry_X6_heightAt : GoodIn wsX6_isDry wsX6_heightAt := goodIn_r _ [5, 6, 7, 13, 14, 15, 16, 17, 18, 19, 20, 21, 22, 23, 24, 25, 26, 27, 28, 29, 30, 31, 32, 33, 34, 35, 36, 37, 38, 39, 40, 41, 42, 43, 44] (by decide +kernel) (by decide +kernel)
set_option maxRecDepth 20000 in
theorem gX6_isDry_X6_heightAt : GoodIn wsX6_isDry (wsV RX6 102 RX6 yX6_heightAt wsX6_heightAt) := goodIn_app (goodIn_of _ (by decide +kernel)) ggX6_isDry_X6_heightAt
set_option maxRecDepth 20000 in
theorem ggX6_isDry_X6_levelOf : GoodIn wsX6_isDry wsX6_levelOf := goodIn_r _ [11, 12, 13, 14, 15, 16, 17, 18, 19, 20, 21, 22, 23, 24, 25, 26, 27, 28, 29, 30, 31, 32, 33, 34, 35, 36, 37, 38, 39, 40, 41, 42, 43, 44] (by decide +kernel) (by decide +kernel)
set_option maxRecDepth 20000 in
theorem gX6_isDry_X6_levelOf : GoodIn wsX6_isDry (wsV RX6 106 RX6 yX6_levelOf wsX6_levelOf) := goodIn_app (goodIn_of _ (by decide +kernel)) ggX6_isDry_X6_levelOf
theorem dX6_isDry_0 : decode cX6_isDry 0 = .ok (.aload_n 0, 1) := by decide +kernel
theorem dX6_isDry_1 : decode cX6_isDry 1 = .ok (.iload_n 2, 1) := by decide +kernel
theorem dX6_isDry_2 : decode cX6_isDry 2 = .ok (.invokevirtual 102, 3) := by decide +kernel
theorem dX6_isDry_5 : decode cX6_isDry 5 = .ok (.aload_n 0, 1) := by decide +kernel
theorem dX6_isDry_6 : decode cX6_isDry 6 = .ok (.iload_n 1, 1) := by decide +kernel
theorem dX6_isDry_7 : decode cX6_isDry 7 = .ok (.iload_n 3, 1) := by decide +kernel
theorem dX6_isDry_8 : decode cX6_isDry 8 = .ok (.invokevirtual 106, 3) := by decide +kernel
theorem dX6_isDry_11 : decode cX6_isDry 11 = .ok (.if_icmp .gt 7, 3) := by decide +kernel
theorem dX6_isDry_14 : decode cX6_isDry 14 = .ok (.iconst 1, 1) := by decide +kernel
theorem dX6_isDry_15 : decode cX6_isDry 15 = .ok (.goto 4, 3) := by decide +kernel
theorem dX6_isDry_18 : decode cX6_isDry 18 = .ok (.iconst 0, 1) := by decide +kernel
theorem dX6_isDry_19 : decode cX6_isDry 19 = .ok (.ireturn, 1) := by decide +kernel
theorem dX6_lieIn_0 : decode cX6_lieIn 0 = .ok (.iconst 0, 1) := by decide +kernel
theorem dX6_lieIn_1 : decode cX6_lieIn 1 = .ok (.istore_n 2, 1) := by decide +kernel
theorem dX6_lieIn_2 : decode cX6_lieIn 2 = .ok (.iconst 0, 1) := by decide +kernel
theorem dX6_lieIn_3 : decode cX6_lieIn 3 = .ok (.istore_n 3, 1) := by decide +kernel
theorem dX6_lieIn_4 : decode cX6_lieIn 4 = .ok (.iload_n 3, 1) := by decide +kernel
theorem dX6_lieIn_5 : decode cX6_lieIn 5 = .ok (.aload_n 0, 1) := by decide +kernel
theorem dX6_lieIn_6 : decode cX6_lieIn 6 = .ok (.getfield 91, 3) := by decide +kernel
theorem dX6_lieIn_9 : decode cX6_lieIn 9 = .ok (.if_icmp .ge 31, 3) := by decide +kernel
theorem dX6_lieIn_12 : decode cX6_lieIn 12 = .ok (.iload_n 2, 1) := by decide +kernel
theorem dX6_lieIn_13 : decode cX6_lieIn 13 = .ok (.aload_n 0, 1) := by decide +kernel
theorem dX6_lieIn_14 : decode cX6_lieIn 14 = .ok (.getfield 25, 3) := by decide +kernel
theorem dX6_lieIn_17 : decode cX6_lieIn 17 = .ok (.iconst 4, 1) := by decide +kernel
theorem dX6_lieIn_18 : decode cX6_lieIn 18 = .ok (.iload_n 3, 1) := by decide +kernel
theorem dX6_lieIn_19 : decode cX6_lieIn 19 = .ok (.imul, 1) := by decide +kernel
theorem dX6_lieIn_20 : decode cX6_lieIn 20 = .ok (.iconst 1, 1) := by decide +kernel
theorem dX6_lieIn_21 : decode cX6_lieIn 21 = .ok (.iadd, 1) := by decide +kernel
theorem dX6_lieIn_22 : decode cX6_lieIn 22 = .ok (.iaload, 1) := by decide +kernel
theorem dX6_lieIn_23 : decode cX6_lieIn 23 = .ok (.iload_n 1, 1) := by decide +kernel
theorem dX6_lieIn_24 : decode cX6_lieIn 24 = .ok (.if_icmp .ne 7, 3) := by decide +kernel
theorem dX6_lieIn_27 : decode cX6_lieIn 27 = .ok (.iconst 1, 1) := by decide +kernel
theorem dX6_lieIn_28 : decode cX6_lieIn 28 = .ok (.goto 4, 3) := by decide +kernel
theorem dX6_lieIn_31 : decode cX6_lieIn 31 = .ok (.iconst 0, 1) := by decide +kernel
theorem dX6_lieIn_32 : decode cX6_lieIn 32 = .ok (.iadd, 1) := by decide +kernel
theorem dX6_lieIn_33 : decode cX6_lieIn 33 = .ok (.istore_n 2, 1) := by decide +kernel
theorem dX6_lieIn_34 : decode cX6_lieIn 34 = .ok (.iinc 3 1, 3) := by decide +kernel
theorem dX6_lieIn_37 : decode cX6_lieIn 37 = .ok (.goto (-33), 3) := by decide +kernel
theorem dX6_lieIn_40 : decode cX6_lieIn 40 = .ok (.iload_n 2, 1) := by decide +kernel
theorem dX6_lieIn_41 : decode cX6_lieIn 41 = .ok (.ireturn, 1) := by decide +kernel
set_option maxRecDepth 20000 in
theorem ggX6_tellCell_X6_isDry : GoodIn wsX6_tellCell wsX6_isDry := goodIn_r _ [9, 10, 11, 12, 8, 13, 14, 15, 16, 17, 18, 19, 1, 26, 27, 28, 29, 30, 31, 32, 33, 34, 35, 36, 37, 38, 39, 40, 41, 42, 43, 44, 45, 46, 47, 48, 49, 50, 51, 52, 53, 54, 55, 56, 57] (by decide +kernel) (by decide +kernel)
set_option maxRecDepth 20000 in
theorem gX6_tellCell_X6_isDry : GoodIn wsX6_tellCell (wsV RX6 110 RX6 yX6_isDry wsX6_isDry) := goodIn_app (goodIn_of _ (by decide +kernel)) ggX6_tellCell_X6_isDry
set_option maxRecDepth 20000 in
theorem ggX6_tellCell_X6_lieIn : GoodIn wsX6_tellCell wsX6_lieIn := goodIn_r _ [23, 24, 25, 26, 27, 28, 29, 30, 31, 32, 33, 34, 35, 36, 37, 38, 39, 40, 41, 42, 43, 44, 45, 46, 47, 48, 49, 50, 51, 52, 53, 54, 55, 56, 57] (by decide +kernel) (by decide +kernel)
set_option maxRecDepth 20000 in
theorem gX6_tellCell_X6_lieIn : GoodIn wsX6_tellCell (wsV RX6 114 RX6 yX6_lieIn wsX6_lieIn) := goodIn_app (goodIn_of _ (by decide +kernel)) ggX6_tellCell_X6_lieIn
theorem dX6_tellCell_0 : decode cX6_tellCell 0 = .ok (.iload_n 2, 1) := by decide +kernel
theorem dX6_tellCell_1 : decode cX6_tellCell 1 = .ok (.ifCond .ne 12, 3) := by decide +kernel
theorem dX6_tellCell_4 : decode cX6_tellCell 4 = .ok (.aload_n 0, 1) := by decide +kernel
theorem dX6_tellCell_5 : decode cX6_tellCell 5 = .ok (.getfield 19, 3) := by decide +kernel
theorem dX6_tellCell_8 : decode cX6_tellCell 8 = .ok (.iload_n 1, 1) := by decide +kernel
theorem dX6_tellCell_9 : decode cX6_tellCell 9 = .ok (.iaload, 1) := by decide +kernel
theorem dX6_tellCell_10 : decode cX6_tellCell 10 = .ok (.goto 53, 3) := by decide +kernel
theorem dX6_tellCell_13 : decode cX6_tellCell 13 = .ok (.iload_n 2, 1) := by decide +kernel
theorem dX6_tellCell_14 : decode cX6_tellCell 14 = .ok (.iconst 1, 1) := by decide +kernel
theorem dX6_tellCell_15 : decode cX6_tellCell 15 = .ok (.if_icmp .ne 14, 3) := by decide +kernel
theorem dX6_tellCell_18 : decode cX6_tellCell 18 = .ok (.aload_n 0, 1) := by decide +kernel
theorem dX6_tellCell_19 : decode cX6_tellCell 19 = .ok (.getfield 85, 3) := by decide +kernel
theorem dX6_tellCell_22 : decode cX6_tellCell 22 = .ok (.iload_n 1, 1) := by decide +kernel
theorem dX6_tellCell_23 : decode cX6_tellCell 23 = .ok (.ishr, 1) := by decide +kernel
theorem dX6_tellCell_24 : decode cX6_tellCell 24 = .ok (.iconst 1, 1) := by decide +kernel
theorem dX6_tellCell_25 : decode cX6_tellCell 25 = .ok (.iand, 1) := by decide +kernel
theorem dX6_tellCell_26 : decode cX6_tellCell 26 = .ok (.goto 37, 3) := by decide +kernel
theorem dX6_tellCell_29 : decode cX6_tellCell 29 = .ok (.iload_n 2, 1) := by decide +kernel
theorem dX6_tellCell_30 : decode cX6_tellCell 30 = .ok (.iconst 2, 1) := by decide +kernel
theorem dX6_tellCell_31 : decode cX6_tellCell 31 = .ok (.if_icmp .ne 27, 3) := by decide +kernel
theorem dX6_tellCell_34 : decode cX6_tellCell 34 = .ok (.aload_n 0, 1) := by decide +kernel
theorem dX6_tellCell_35 : decode cX6_tellCell 35 = .ok (.iload_n 1, 1) := by decide +kernel
theorem dX6_tellCell_36 : decode cX6_tellCell 36 = .ok (.aload_n 0, 1) := by decide +kernel
theorem dX6_tellCell_37 : decode cX6_tellCell 37 = .ok (.getfield 88, 3) := by decide +kernel
theorem dX6_tellCell_40 : decode cX6_tellCell 40 = .ok (.aload_n 0, 1) := by decide +kernel
theorem dX6_tellCell_41 : decode cX6_tellCell 41 = .ok (.getfield 47, 3) := by decide +kernel
theorem dX6_tellCell_44 : decode cX6_tellCell 44 = .ok (.invokevirtual 110, 3) := by decide +kernel
theorem dX6_tellCell_47 : decode cX6_tellCell 47 = .ok (.ifCond .eq 7, 3) := by decide +kernel
theorem dX6_tellCell_50 : decode cX6_tellCell 50 = .ok (.iconst 1, 1) := by decide +kernel
theorem dX6_tellCell_51 : decode cX6_tellCell 51 = .ok (.goto 12, 3) := by decide +kernel
theorem dX6_tellCell_54 : decode cX6_tellCell 54 = .ok (.iconst 0, 1) := by decide +kernel
theorem dX6_tellCell_55 : decode cX6_tellCell 55 = .ok (.goto 8, 3) := by decide +kernel
theorem dX6_tellCell_58 : decode cX6_tellCell 58 = .ok (.aload_n 0, 1) := by decide +kernel
theorem dX6_tellCell_59 : decode cX6_tellCell 59 = .ok (.iload_n 1, 1) := by decide +kernel
theorem dX6_tellCell_60 : decode cX6_tellCell 60 = .ok (.invokevirtual 114, 3) := by decide +kernel
theorem dX6_tellCell_63 : decode cX6_tellCell 63 = .ok (.ireturn, 1) := by decide +kernel
set_option maxRecDepth 20000 in
theorem ggX6_cell_X6_isCell : GoodIn wsX6_cell wsX6_isCell := goodIn_r _ [5, 6, 7, 8, 4, 9] (by decide +kernel) (by decide +kernel)
set_option maxRecDepth 20000 in
theorem gX6_cell_X6_isCell : GoodIn wsX6_cell (va_wsS RX6 117 yX6_isCell wsX6_isCell) := goodIn_app (goodIn_of _ (by decide +kernel)) ggX6_cell_X6_isCell
set_option maxRecDepth 20000 in
theorem ggX6_cell_X6_in : GoodIn wsX6_cell wsX6_in := goodIn_r _ [9] (by decide +kernel) (by decide +kernel)
set_option maxRecDepth 20000 in
theorem gX6_cell_X6_in : GoodIn wsX6_cell (va_wsS RX6 70 yX6_in wsX6_in) := goodIn_app (goodIn_of _ (by decide +kernel)) ggX6_cell_X6_in
set_option maxRecDepth 20000 in
theorem ggX6_cell_X6_lacks : GoodIn wsX6_cell wsX6_lacks := goodIn_r _ [13, 14, 42, 43, 44, 45, 46, 47, 48, 49, 50, 51, 52, 53, 54, 55, 56, 57, 58, 59, 60, 61, 62, 63, 64, 65, 66, 67, 68, 69, 70, 71, 72, 73] (by decide +kernel) (by decide +kernel)
set_option maxRecDepth 20000 in
theorem gX6_cell_X6_lacks : GoodIn wsX6_cell (wsV RX6 122 RX6 yX6_lacks wsX6_lacks) := goodIn_app (goodIn_of _ (by decide +kernel)) ggX6_cell_X6_lacks
set_option maxRecDepth 20000 in
theorem ggX6_cell_X6_tellCell : GoodIn wsX6_cell wsX6_tellCell := goodIn_r _ [18, 19, 20, 21, 22, 23, 24, 25, 4, 26, 27, 28, 29, 30, 31, 14, 32, 33, 34, 35, 36, 37, 38, 39, 40, 41, 42, 43, 44, 45, 46, 47, 48, 49, 50, 51, 52, 53, 54, 55, 56, 57, 58, 59, 60, 61, 62, 63, 64, 65, 66, 67, 68, 69, 70, 71, 72, 73] (by decide +kernel) (by decide +kernel)
set_option maxRecDepth 20000 in
theorem gX6_cell_X6_tellCell : GoodIn wsX6_cell (wsV RX6 125 RX6 yX6_tellCell wsX6_tellCell) := goodIn_app (goodIn_of _ (by decide +kernel)) ggX6_cell_X6_tellCell
theorem dX6_cell_0 : decode cX6_cell 0 = .ok (.iload_n 1, 1) := by decide +kernel
theorem dX6_cell_1 : decode cX6_cell 1 = .ok (.invokestatic 117, 3) := by decide +kernel
theorem dX6_cell_4 : decode cX6_cell 4 = .ok (.ifCond .ne 6, 3) := by decide +kernel
theorem dX6_cell_7 : decode cX6_cell 7 = .ok (.bipush (-101), 2) := by decide +kernel
theorem dX6_cell_9 : decode cX6_cell 9 = .ok (.ireturn, 1) := by decide +kernel
theorem dX6_cell_10 : decode cX6_cell 10 = .ok (.iload_n 2, 1) := by decide +kernel
theorem dX6_cell_11 : decode cX6_cell 11 = .ok (.i2l, 1) := by decide +kernel
theorem dX6_cell_12 : decode cX6_cell 12 = .ok (.lconst 0, 1) := by decide +kernel
theorem dX6_cell_13 : decode cX6_cell 13 = .ok (.ldc2_w 120, 3) := by decide +kernel
theorem dX6_cell_16 : decode cX6_cell 16 = .ok (.invokestatic 70, 3) := by decide +kernel
theorem dX6_cell_19 : decode cX6_cell 19 = .ok (.ifCond .ne 6, 3) := by decide +kernel
theorem dX6_cell_22 : decode cX6_cell 22 = .ok (.bipush (-102), 2) := by decide +kernel
theorem dX6_cell_24 : decode cX6_cell 24 = .ok (.ireturn, 1) := by decide +kernel
theorem dX6_cell_25 : decode cX6_cell 25 = .ok (.aload_n 0, 1) := by decide +kernel
theorem dX6_cell_26 : decode cX6_cell 26 = .ok (.invokevirtual 122, 3) := by decide +kernel
theorem dX6_cell_29 : decode cX6_cell 29 = .ok (.ifCond .eq 8, 3) := by decide +kernel
theorem dX6_cell_32 : decode cX6_cell 32 = .ok (.bipush (-103), 2) := by decide +kernel
theorem dX6_cell_34 : decode cX6_cell 34 = .ok (.goto 9, 3) := by decide +kernel
theorem dX6_cell_37 : decode cX6_cell 37 = .ok (.aload_n 0, 1) := by decide +kernel
theorem dX6_cell_38 : decode cX6_cell 38 = .ok (.iload_n 1, 1) := by decide +kernel
theorem dX6_cell_39 : decode cX6_cell 39 = .ok (.iload_n 2, 1) := by decide +kernel
theorem dX6_cell_40 : decode cX6_cell 40 = .ok (.invokevirtual 125, 3) := by decide +kernel
theorem dX6_cell_43 : decode cX6_cell 43 = .ok (.ireturn, 1) := by decide +kernel
set_option maxRecDepth 20000 in
theorem ggX6_tide_X6_in : GoodIn wsX6_tide wsX6_in := goodIn_r _ [6] (by decide +kernel) (by decide +kernel)
set_option maxRecDepth 20000 in
theorem gX6_tide_X6_in : GoodIn wsX6_tide (va_wsS RX6 70 yX6_in wsX6_in) := goodIn_app (goodIn_of _ (by decide +kernel)) ggX6_tide_X6_in
set_option maxRecDepth 20000 in
theorem ggX6_tide_X6_lacks : GoodIn wsX6_tide wsX6_lacks := goodIn_r _ [10, 11, 17, 18, 19, 20, 21, 22, 23, 24, 25, 26, 27, 28, 29, 30, 31, 32, 33, 34, 35, 36, 37, 38, 39, 40, 41, 42, 43, 44, 45, 46, 47, 48] (by decide +kernel) (by decide +kernel)
set_option maxRecDepth 20000 in
theorem gX6_tide_X6_lacks : GoodIn wsX6_tide (wsV RX6 122 RX6 yX6_lacks wsX6_lacks) := goodIn_app (goodIn_of _ (by decide +kernel)) ggX6_tide_X6_lacks
set_option maxRecDepth 20000 in
theorem ggX6_tide_X6_heightAt : GoodIn wsX6_tide wsX6_heightAt := goodIn_r _ [15, 16, 11, 17, 18, 19, 20, 21, 22, 23, 24, 25, 26, 27, 28, 29, 30, 31, 32, 33, 34, 35, 36, 37, 38, 39, 40, 41, 42, 43, 44, 45, 46, 47, 48] (by decide +kernel) (by decide +kernel)
set_option maxRecDepth 20000 in
theorem gX6_tide_X6_heightAt : GoodIn wsX6_tide (wsV RX6 102 RX6 yX6_heightAt wsX6_heightAt) := goodIn_app (goodIn_of _ (by decide +kernel)) ggX6_tide_X6_heightAt
theorem dX6_tide_0 : decode cX6_tide 0 = .ok (.iload_n 1, 1) := by decide +kernel
theorem dX6_tide_1 : decode cX6_tide 1 = .ok (.i2l, 1) := by decide +kernel
theorem dX6_tide_2 : decode cX6_tide 2 = .ok (.lconst 0, 1) := by decide +kernel
theorem dX6_tide_3 : decode cX6_tide 3 = .ok (.ldc2_w 128, 3) := by decide +kernel
theorem dX6_tide_6 : decode cX6_tide 6 = .ok (.invokestatic 70, 3) := by decide +kernel
theorem dX6_tide_9 : decode cX6_tide 9 = .ok (.ifCond .ne 6, 3) := by decide +kernel
theorem dX6_tide_12 : decode cX6_tide 12 = .ok (.bipush (-102), 2) := by decide +kernel
theorem dX6_tide_14 : decode cX6_tide 14 = .ok (.ireturn, 1) := by decide +kernel
theorem dX6_tide_15 : decode cX6_tide 15 = .ok (.aload_n 0, 1) := by decide +kernel
theorem dX6_tide_16 : decode cX6_tide 16 = .ok (.invokevirtual 122, 3) := by decide +kernel
theorem dX6_tide_19 : decode cX6_tide 19 = .ok (.ifCond .eq 8, 3) := by decide +kernel
theorem dX6_tide_22 : decode cX6_tide 22 = .ok (.bipush (-103), 2) := by decide +kernel
theorem dX6_tide_24 : decode cX6_tide 24 = .ok (.goto 13, 3) := by decide +kernel
theorem dX6_tide_27 : decode cX6_tide 27 = .ok (.aload_n 0, 1) := by decide +kernel
theorem dX6_tide_28 : decode cX6_tide 28 = .ok (.aload_n 0, 1) := by decide +kernel
theorem dX6_tide_29 : decode cX6_tide 29 = .ok (.getfield 88, 3) := by decide +kernel
theorem dX6_tide_32 : decode cX6_tide 32 = .ok (.iload_n 1, 1) := by decide +kernel
theorem dX6_tide_33 : decode cX6_tide 33 = .ok (.iadd, 1) := by decide +kernel
theorem dX6_tide_34 : decode cX6_tide 34 = .ok (.invokevirtual 102, 3) := by decide +kernel
theorem dX6_tide_37 : decode cX6_tide 37 = .ok (.ireturn, 1) := by decide +kernel
set_option maxRecDepth 20000 in
theorem ggX6_barge_X6_isCell : GoodIn wsX6_barge wsX6_isCell := goodIn_r _ [5, 6, 7, 8, 4, 9] (by decide +kernel) (by decide +kernel)
set_option maxRecDepth 20000 in
theorem gX6_barge_X6_isCell : GoodIn wsX6_barge (va_wsS RX6 117 yX6_isCell wsX6_isCell) := goodIn_app (goodIn_of _ (by decide +kernel)) ggX6_barge_X6_isCell
set_option maxRecDepth 20000 in
theorem ggX6_barge_X6_lacks : GoodIn wsX6_barge wsX6_lacks := goodIn_r _ [13, 14, 15, 16, 17, 18, 19, 20, 21, 22, 23, 24, 25, 26, 27, 28, 29, 30, 31, 32, 33, 34, 35, 36, 37, 38, 39, 40, 41, 42, 43, 44, 45, 46] (by decide +kernel) (by decide +kernel)
set_option maxRecDepth 20000 in
theorem gX6_barge_X6_lacks : GoodIn wsX6_barge (wsV RX6 122 RX6 yX6_lacks wsX6_lacks) := goodIn_app (goodIn_of _ (by decide +kernel)) ggX6_barge_X6_lacks
theorem dX6_barge_0 : decode cX6_barge 0 = .ok (.iload_n 1, 1) := by decide +kernel
theorem dX6_barge_1 : decode cX6_barge 1 = .ok (.iconst (-1), 1) := by decide +kernel
theorem dX6_barge_2 : decode cX6_barge 2 = .ok (.if_icmp .eq 13, 3) := by decide +kernel
theorem dX6_barge_5 : decode cX6_barge 5 = .ok (.iload_n 1, 1) := by decide +kernel
theorem dX6_barge_6 : decode cX6_barge 6 = .ok (.invokestatic 117, 3) := by decide +kernel
theorem dX6_barge_9 : decode cX6_barge 9 = .ok (.ifCond .ne 6, 3) := by decide +kernel
theorem dX6_barge_12 : decode cX6_barge 12 = .ok (.bipush (-101), 2) := by decide +kernel
theorem dX6_barge_14 : decode cX6_barge 14 = .ok (.ireturn, 1) := by decide +kernel
theorem dX6_barge_15 : decode cX6_barge 15 = .ok (.aload_n 0, 1) := by decide +kernel
theorem dX6_barge_16 : decode cX6_barge 16 = .ok (.invokevirtual 122, 3) := by decide +kernel
theorem dX6_barge_19 : decode cX6_barge 19 = .ok (.ifCond .eq 6, 3) := by decide +kernel
theorem dX6_barge_22 : decode cX6_barge 22 = .ok (.bipush (-103), 2) := by decide +kernel
theorem dX6_barge_24 : decode cX6_barge 24 = .ok (.ireturn, 1) := by decide +kernel
theorem dX6_barge_25 : decode cX6_barge 25 = .ok (.aload_n 0, 1) := by decide +kernel
theorem dX6_barge_26 : decode cX6_barge 26 = .ok (.getfield 47, 3) := by decide +kernel
theorem dX6_barge_29 : decode cX6_barge 29 = .ok (.istore_n 2, 1) := by decide +kernel
theorem dX6_barge_30 : decode cX6_barge 30 = .ok (.aload_n 0, 1) := by decide +kernel
theorem dX6_barge_31 : decode cX6_barge 31 = .ok (.iload_n 1, 1) := by decide +kernel
theorem dX6_barge_32 : decode cX6_barge 32 = .ok (.putfield 47, 3) := by decide +kernel
theorem dX6_barge_35 : decode cX6_barge 35 = .ok (.iload_n 2, 1) := by decide +kernel
theorem dX6_barge_36 : decode cX6_barge 36 = .ok (.ireturn, 1) := by decide +kernel
set_option maxRecDepth 20000 in
theorem ggX6_drifts_X6_isDry : GoodIn wsX6_drifts wsX6_isDry := goodIn_r _ [6, 7, 8, 9, 5, 10, 11, 12, 13, 14, 15, 16, 17, 18, 19, 20, 21, 22, 23, 24, 25, 26, 27, 28, 29, 30, 31, 32, 33, 34, 35, 36, 37, 38, 39, 40, 41, 42, 43, 44, 45, 46, 47, 48, 49] (by decide +kernel) (by decide +kernel)
set_option maxRecDepth 20000 in
theorem gX6_drifts_X6_isDry : GoodIn wsX6_drifts (wsV RX6 110 RX6 yX6_isDry wsX6_isDry) := goodIn_app (goodIn_of _ (by decide +kernel)) ggX6_drifts_X6_isDry
set_option maxRecDepth 20000 in
theorem ggX6_drifts_X6_heightAt : GoodIn wsX6_drifts wsX6_heightAt := goodIn_r _ [10, 11, 12, 18, 19, 20, 21, 22, 23, 24, 25, 26, 27, 28, 29, 30, 31, 32, 33, 34, 35, 36, 37, 38, 39, 40, 41, 42, 43, 44, 45, 46, 47, 48, 49] (by decide +kernel) (by decide +kernel)
set_option maxRecDepth 20000 in
theorem gX6_drifts_X6_heightAt : GoodIn wsX6_drifts (wsV RX6 102 RX6 yX6_heightAt wsX6_heightAt) := goodIn_app (goodIn_of _ (by decide +kernel)) ggX6_drifts_X6_heightAt
theorem dX6_drifts_0 : decode cX6_drifts 0 = .ok (.iload_n 2, 1) := by decide +kernel
theorem dX6_drifts_1 : decode cX6_drifts 1 = .ok (.ifCond .lt 16, 3) := by decide +kernel
theorem dX6_drifts_4 : decode cX6_drifts 4 = .ok (.aload_n 0, 1) := by decide +kernel
theorem dX6_drifts_5 : decode cX6_drifts 5 = .ok (.iload_n 2, 1) := by decide +kernel
theorem dX6_drifts_6 : decode cX6_drifts 6 = .ok (.iload_n 3, 1) := by decide +kernel
theorem dX6_drifts_7 : decode cX6_drifts 7 = .ok (.aload_n 0, 1) := by decide +kernel
theorem dX6_drifts_8 : decode cX6_drifts 8 = .ok (.getfield 47, 3) := by decide +kernel
theorem dX6_drifts_11 : decode cX6_drifts 11 = .ok (.invokevirtual 110, 3) := by decide +kernel
theorem dX6_drifts_14 : decode cX6_drifts 14 = .ok (.ifCond .eq 5, 3) := by decide +kernel
theorem dX6_drifts_17 : decode cX6_drifts 17 = .ok (.iload_n 2, 1) := by decide +kernel
theorem dX6_drifts_18 : decode cX6_drifts 18 = .ok (.ireturn, 1) := by decide +kernel
theorem dX6_drifts_19 : decode cX6_drifts 19 = .ok (.aload_n 0, 1) := by decide +kernel
theorem dX6_drifts_20 : decode cX6_drifts 20 = .ok (.iload_n 3, 1) := by decide +kernel
theorem dX6_drifts_21 : decode cX6_drifts 21 = .ok (.invokevirtual 102, 3) := by decide +kernel
theorem dX6_drifts_24 : decode cX6_drifts 24 = .ok (.istore 4, 2) := by decide +kernel
theorem dX6_drifts_26 : decode cX6_drifts 26 = .ok (.aload_n 0, 1) := by decide +kernel
theorem dX6_drifts_27 : decode cX6_drifts 27 = .ok (.iload_n 3, 1) := by decide +kernel
theorem dX6_drifts_28 : decode cX6_drifts 28 = .ok (.iconst 1, 1) := by decide +kernel
theorem dX6_drifts_29 : decode cX6_drifts 29 = .ok (.iadd, 1) := by decide +kernel
theorem dX6_drifts_30 : decode cX6_drifts 30 = .ok (.invokevirtual 102, 3) := by decide +kernel
theorem dX6_drifts_33 : decode cX6_drifts 33 = .ok (.istore 5, 2) := by decide +kernel
theorem dX6_drifts_35 : decode cX6_drifts 35 = .ok (.iload_n 1, 1) := by decide +kernel
theorem dX6_drifts_36 : decode cX6_drifts 36 = .ok (.ifCond .ne 7, 3) := by decide +kernel
theorem dX6_drifts_39 : decode cX6_drifts 39 = .ok (.iconst 1, 1) := by decide +kernel
theorem dX6_drifts_40 : decode cX6_drifts 40 = .ok (.goto 38, 3) := by decide +kernel
theorem dX6_drifts_43 : decode cX6_drifts 43 = .ok (.iload_n 1, 1) := by decide +kernel
theorem dX6_drifts_44 : decode cX6_drifts 44 = .ok (.iconst 1, 1) := by decide +kernel
theorem dX6_drifts_45 : decode cX6_drifts 45 = .ok (.if_icmp .ne 7, 3) := by decide +kernel
theorem dX6_drifts_48 : decode cX6_drifts 48 = .ok (.iconst 2, 1) := by decide +kernel
theorem dX6_drifts_49 : decode cX6_drifts 49 = .ok (.goto 29, 3) := by decide +kernel
theorem dX6_drifts_52 : decode cX6_drifts 52 = .ok (.iload_n 1, 1) := by decide +kernel
theorem dX6_drifts_53 : decode cX6_drifts 53 = .ok (.iconst 4, 1) := by decide +kernel
theorem dX6_drifts_54 : decode cX6_drifts 54 = .ok (.if_icmp .ne 7, 3) := by decide +kernel
theorem dX6_drifts_57 : decode cX6_drifts 57 = .ok (.iconst 3, 1) := by decide +kernel
theorem dX6_drifts_58 : decode cX6_drifts 58 = .ok (.goto 20, 3) := by decide +kernel
theorem dX6_drifts_61 : decode cX6_drifts 61 = .ok (.iload_n 1, 1) := by decide +kernel
theorem dX6_drifts_62 : decode cX6_drifts 62 = .ok (.iconst 2, 1) := by decide +kernel
theorem dX6_drifts_63 : decode cX6_drifts 63 = .ok (.if_icmp .ne 14, 3) := by decide +kernel
theorem dX6_drifts_66 : decode cX6_drifts 66 = .ok (.iload 5, 2) := by decide +kernel
theorem dX6_drifts_68 : decode cX6_drifts 68 = .ok (.iload 4, 2) := by decide +kernel
theorem dX6_drifts_70 : decode cX6_drifts 70 = .ok (.if_icmp .ge 7, 3) := by decide +kernel
theorem dX6_drifts_73 : decode cX6_drifts 73 = .ok (.iconst 1, 1) := by decide +kernel
theorem dX6_drifts_74 : decode cX6_drifts 74 = .ok (.goto 4, 3) := by decide +kernel
theorem dX6_drifts_77 : decode cX6_drifts 77 = .ok (.iconst 0, 1) := by decide +kernel
theorem dX6_drifts_78 : decode cX6_drifts 78 = .ok (.istore 6, 2) := by decide +kernel
theorem dX6_drifts_80 : decode cX6_drifts 80 = .ok (.iload 5, 2) := by decide +kernel
theorem dX6_drifts_82 : decode cX6_drifts 82 = .ok (.iload 4, 2) := by decide +kernel
theorem dX6_drifts_84 : decode cX6_drifts 84 = .ok (.if_icmp .le 7, 3) := by decide +kernel
theorem dX6_drifts_87 : decode cX6_drifts 87 = .ok (.iconst 1, 1) := by decide +kernel
theorem dX6_drifts_88 : decode cX6_drifts 88 = .ok (.goto 15, 3) := by decide +kernel
theorem dX6_drifts_91 : decode cX6_drifts 91 = .ok (.iload 5, 2) := by decide +kernel
theorem dX6_drifts_93 : decode cX6_drifts 93 = .ok (.iload 4, 2) := by decide +kernel
theorem dX6_drifts_95 : decode cX6_drifts 95 = .ok (.if_icmp .ge 7, 3) := by decide +kernel
theorem dX6_drifts_98 : decode cX6_drifts 98 = .ok (.iconst (-1), 1) := by decide +kernel
theorem dX6_drifts_99 : decode cX6_drifts 99 = .ok (.goto 4, 3) := by decide +kernel
theorem dX6_drifts_102 : decode cX6_drifts 102 = .ok (.iconst 0, 1) := by decide +kernel
theorem dX6_drifts_103 : decode cX6_drifts 103 = .ok (.istore 7, 2) := by decide +kernel
theorem dX6_drifts_105 : decode cX6_drifts 105 = .ok (.iload_n 2, 1) := by decide +kernel
theorem dX6_drifts_106 : decode cX6_drifts 106 = .ok (.istore 8, 2) := by decide +kernel
theorem dX6_drifts_108 : decode cX6_drifts 108 = .ok (.iload 7, 2) := by decide +kernel
theorem dX6_drifts_110 : decode cX6_drifts 110 = .ok (.ifCond .eq 7, 3) := by decide +kernel
theorem dX6_drifts_113 : decode cX6_drifts 113 = .ok (.iconst 1, 1) := by decide +kernel
theorem dX6_drifts_114 : decode cX6_drifts 114 = .ok (.goto 4, 3) := by decide +kernel
theorem dX6_drifts_117 : decode cX6_drifts 117 = .ok (.iconst 0, 1) := by decide +kernel
theorem dX6_drifts_118 : decode cX6_drifts 118 = .ok (.istore 9, 2) := by decide +kernel
theorem dX6_drifts_120 : decode cX6_drifts 120 = .ok (.iconst 0, 1) := by decide +kernel
theorem dX6_drifts_121 : decode cX6_drifts 121 = .ok (.istore 10, 2) := by decide +kernel
theorem dX6_drifts_123 : decode cX6_drifts 123 = .ok (.iload 10, 2) := by decide +kernel
theorem dX6_drifts_125 : decode cX6_drifts 125 = .ok (.iload 6, 2) := by decide +kernel
theorem dX6_drifts_127 : decode cX6_drifts 127 = .ok (.if_icmp .ge 69, 3) := by decide +kernel
theorem dX6_drifts_130 : decode cX6_drifts 130 = .ok (.iload 9, 2) := by decide +kernel
theorem dX6_drifts_132 : decode cX6_drifts 132 = .ok (.ifCond .eq 64, 3) := by decide +kernel
theorem dX6_drifts_135 : decode cX6_drifts 135 = .ok (.iload 8, 2) := by decide +kernel
theorem dX6_drifts_137 : decode cX6_drifts 137 = .ok (.iload 7, 2) := by decide +kernel
theorem dX6_drifts_139 : decode cX6_drifts 139 = .ok (.iadd, 1) := by decide +kernel
theorem dX6_drifts_140 : decode cX6_drifts 140 = .ok (.istore 11, 2) := by decide +kernel
theorem dX6_drifts_142 : decode cX6_drifts 142 = .ok (.iload 11, 2) := by decide +kernel
theorem dX6_drifts_144 : decode cX6_drifts 144 = .ok (.bipush 7, 2) := by decide +kernel
theorem dX6_drifts_146 : decode cX6_drifts 146 = .ok (.if_icmp .le 9, 3) := by decide +kernel
theorem dX6_drifts_149 : decode cX6_drifts 149 = .ok (.iconst 0, 1) := by decide +kernel
theorem dX6_drifts_150 : decode cX6_drifts 150 = .ok (.istore 9, 2) := by decide +kernel
theorem dX6_drifts_152 : decode cX6_drifts 152 = .ok (.goto 38, 3) := by decide +kernel
theorem dX6_drifts_155 : decode cX6_drifts 155 = .ok (.iload 11, 2) := by decide +kernel
theorem dX6_drifts_157 : decode cX6_drifts 157 = .ok (.ifCond .ge 6, 3) := by decide +kernel
theorem dX6_drifts_160 : decode cX6_drifts 160 = .ok (.bipush (-2), 2) := by decide +kernel
theorem dX6_drifts_162 : decode cX6_drifts 162 = .ok (.ireturn, 1) := by decide +kernel
theorem dX6_drifts_163 : decode cX6_drifts 163 = .ok (.iload 11, 2) := by decide +kernel
theorem dX6_drifts_165 : decode cX6_drifts 165 = .ok (.istore 8, 2) := by decide +kernel
theorem dX6_drifts_167 : decode cX6_drifts 167 = .ok (.aload_n 0, 1) := by decide +kernel
theorem dX6_drifts_168 : decode cX6_drifts 168 = .ok (.iload 8, 2) := by decide +kernel
theorem dX6_drifts_170 : decode cX6_drifts 170 = .ok (.iload_n 3, 1) := by decide +kernel
theorem dX6_drifts_171 : decode cX6_drifts 171 = .ok (.iconst 1, 1) := by decide +kernel
theorem dX6_drifts_172 : decode cX6_drifts 172 = .ok (.iadd, 1) := by decide +kernel
theorem dX6_drifts_173 : decode cX6_drifts 173 = .ok (.aload_n 0, 1) := by decide +kernel
theorem dX6_drifts_174 : decode cX6_drifts 174 = .ok (.getfield 47, 3) := by decide +kernel
theorem dX6_drifts_177 : decode cX6_drifts 177 = .ok (.invokevirtual 110, 3) := by decide +kernel
theorem dX6_drifts_180 : decode cX6_drifts 180 = .ok (.ifCond .ne 7, 3) := by decide +kernel
theorem dX6_drifts_183 : decode cX6_drifts 183 = .ok (.iconst 1, 1) := by decide +kernel
theorem dX6_drifts_184 : decode cX6_drifts 184 = .ok (.goto 4, 3) := by decide +kernel
theorem dX6_drifts_187 : decode cX6_drifts 187 = .ok (.iconst 0, 1) := by decide +kernel
theorem dX6_drifts_188 : decode cX6_drifts 188 = .ok (.istore 9, 2) := by decide +kernel
theorem dX6_drifts_190 : decode cX6_drifts 190 = .ok (.iinc 10 1, 3) := by decide +kernel
theorem dX6_drifts_193 : decode cX6_drifts 193 = .ok (.goto (-70), 3) := by decide +kernel
theorem dX6_drifts_196 : decode cX6_drifts 196 = .ok (.iload 8, 2) := by decide +kernel
theorem dX6_drifts_198 : decode cX6_drifts 198 = .ok (.ireturn, 1) := by decide +kernel
set_option maxRecDepth 20000 in
theorem ggX6_hour_X6_lacks : GoodIn wsX6_hour wsX6_lacks := goodIn_r _ [8, 9, 29, 30, 31, 32, 33, 34, 35, 36, 37, 38, 39, 40, 41, 42, 43, 44, 45, 46, 47, 48, 49, 50, 51, 52, 53, 54, 55, 56, 57, 58, 59, 60] (by decide +kernel) (by decide +kernel)
set_option maxRecDepth 20000 in
theorem gX6_hour_X6_lacks : GoodIn wsX6_hour (wsV RX6 122 RX6 yX6_lacks wsX6_lacks) := goodIn_app (goodIn_of _ (by decide +kernel)) ggX6_hour_X6_lacks
set_option maxRecDepth 20000 in
theorem ggX6_hour_X6_drifts : GoodIn wsX6_hour wsX6_drifts := goodIn_r _ [13, 14, 15, 16, 17, 7, 18, 19, 20, 21, 22, 23, 9, 24, 25, 26, 27, 28, 29, 30, 31, 32, 33, 34, 35, 36, 37, 38, 39, 40, 41, 42, 43, 44, 45, 46, 47, 48, 49, 50, 51, 52, 53, 54, 55, 56, 57, 58, 59, 60] (by decide +kernel) (by decide +kernel)
set_option maxRecDepth 20000 in
theorem gX6_hour_X6_drifts : GoodIn wsX6_hour (wsV RX6 130 RX6 yX6_drifts wsX6_drifts) := goodIn_app (goodIn_of _ (by decide +kernel)) ggX6_hour_X6_drifts
theorem dX6_hour_0 : decode cX6_hour 0 = .ok (.aload_n 0, 1) := by decide +kernel
theorem dX6_hour_1 : decode cX6_hour 1 = .ok (.invokevirtual 122, 3) := by decide +kernel
theorem dX6_hour_4 : decode cX6_hour 4 = .ok (.ifCond .eq 6, 3) := by decide +kernel
theorem dX6_hour_7 : decode cX6_hour 7 = .ok (.bipush (-103), 2) := by decide +kernel
theorem dX6_hour_9 : decode cX6_hour 9 = .ok (.ireturn, 1) := by decide +kernel
theorem dX6_hour_10 : decode cX6_hour 10 = .ok (.iconst 0, 1) := by decide +kernel
theorem dX6_hour_11 : decode cX6_hour 11 = .ok (.istore_n 1, 1) := by decide +kernel
theorem dX6_hour_12 : decode cX6_hour 12 = .ok (.iconst 0, 1) := by decide +kernel
theorem dX6_hour_13 : decode cX6_hour 13 = .ok (.istore_n 2, 1) := by decide +kernel
theorem dX6_hour_14 : decode cX6_hour 14 = .ok (.iload_n 2, 1) := by decide +kernel
theorem dX6_hour_15 : decode cX6_hour 15 = .ok (.aload_n 0, 1) := by decide +kernel
theorem dX6_hour_16 : decode cX6_hour 16 = .ok (.getfield 91, 3) := by decide +kernel
theorem dX6_hour_19 : decode cX6_hour 19 = .ok (.if_icmp .ge 69, 3) := by decide +kernel
theorem dX6_hour_22 : decode cX6_hour 22 = .ok (.aload_n 0, 1) := by decide +kernel
theorem dX6_hour_23 : decode cX6_hour 23 = .ok (.aload_n 0, 1) := by decide +kernel
theorem dX6_hour_24 : decode cX6_hour 24 = .ok (.getfield 25, 3) := by decide +kernel
theorem dX6_hour_27 : decode cX6_hour 27 = .ok (.iconst 4, 1) := by decide +kernel
theorem dX6_hour_28 : decode cX6_hour 28 = .ok (.iload_n 2, 1) := by decide +kernel
theorem dX6_hour_29 : decode cX6_hour 29 = .ok (.imul, 1) := by decide +kernel
theorem dX6_hour_30 : decode cX6_hour 30 = .ok (.iaload, 1) := by decide +kernel
theorem dX6_hour_31 : decode cX6_hour 31 = .ok (.aload_n 0, 1) := by decide +kernel
theorem dX6_hour_32 : decode cX6_hour 32 = .ok (.getfield 25, 3) := by decide +kernel
theorem dX6_hour_35 : decode cX6_hour 35 = .ok (.iconst 4, 1) := by decide +kernel
theorem dX6_hour_36 : decode cX6_hour 36 = .ok (.iload_n 2, 1) := by decide +kernel
theorem dX6_hour_37 : decode cX6_hour 37 = .ok (.imul, 1) := by decide +kernel
theorem dX6_hour_38 : decode cX6_hour 38 = .ok (.iconst 1, 1) := by decide +kernel
theorem dX6_hour_39 : decode cX6_hour 39 = .ok (.iadd, 1) := by decide +kernel
theorem dX6_hour_40 : decode cX6_hour 40 = .ok (.iaload, 1) := by decide +kernel
theorem dX6_hour_41 : decode cX6_hour 41 = .ok (.aload_n 0, 1) := by decide +kernel
theorem dX6_hour_42 : decode cX6_hour 42 = .ok (.getfield 88, 3) := by decide +kernel
theorem dX6_hour_45 : decode cX6_hour 45 = .ok (.invokevirtual 130, 3) := by decide +kernel
theorem dX6_hour_48 : decode cX6_hour 48 = .ok (.istore_n 3, 1) := by decide +kernel
theorem dX6_hour_49 : decode cX6_hour 49 = .ok (.iload_n 1, 1) := by decide +kernel
theorem dX6_hour_50 : decode cX6_hour 50 = .ok (.iload_n 3, 1) := by decide +kernel
theorem dX6_hour_51 : decode cX6_hour 51 = .ok (.aload_n 0, 1) := by decide +kernel
theorem dX6_hour_52 : decode cX6_hour 52 = .ok (.getfield 25, 3) := by decide +kernel
theorem dX6_hour_55 : decode cX6_hour 55 = .ok (.iconst 4, 1) := by decide +kernel
theorem dX6_hour_56 : decode cX6_hour 56 = .ok (.iload_n 2, 1) := by decide +kernel
theorem dX6_hour_57 : decode cX6_hour 57 = .ok (.imul, 1) := by decide +kernel
theorem dX6_hour_58 : decode cX6_hour 58 = .ok (.iconst 1, 1) := by decide +kernel
theorem dX6_hour_59 : decode cX6_hour 59 = .ok (.iadd, 1) := by decide +kernel
theorem dX6_hour_60 : decode cX6_hour 60 = .ok (.iaload, 1) := by decide +kernel
theorem dX6_hour_61 : decode cX6_hour 61 = .ok (.if_icmp .ne 7, 3) := by decide +kernel
theorem dX6_hour_64 : decode cX6_hour 64 = .ok (.iconst 0, 1) := by decide +kernel
theorem dX6_hour_65 : decode cX6_hour 65 = .ok (.goto 4, 3) := by decide +kernel
theorem dX6_hour_68 : decode cX6_hour 68 = .ok (.iconst 1, 1) := by decide +kernel
theorem dX6_hour_69 : decode cX6_hour 69 = .ok (.iadd, 1) := by decide +kernel
theorem dX6_hour_70 : decode cX6_hour 70 = .ok (.istore_n 1, 1) := by decide +kernel
theorem dX6_hour_71 : decode cX6_hour 71 = .ok (.aload_n 0, 1) := by decide +kernel
theorem dX6_hour_72 : decode cX6_hour 72 = .ok (.getfield 25, 3) := by decide +kernel
theorem dX6_hour_75 : decode cX6_hour 75 = .ok (.iconst 4, 1) := by decide +kernel
theorem dX6_hour_76 : decode cX6_hour 76 = .ok (.iload_n 2, 1) := by decide +kernel
theorem dX6_hour_77 : decode cX6_hour 77 = .ok (.imul, 1) := by decide +kernel
theorem dX6_hour_78 : decode cX6_hour 78 = .ok (.iconst 1, 1) := by decide +kernel
theorem dX6_hour_79 : decode cX6_hour 79 = .ok (.iadd, 1) := by decide +kernel
theorem dX6_hour_80 : decode cX6_hour 80 = .ok (.iload_n 3, 1) := by decide +kernel
theorem dX6_hour_81 : decode cX6_hour 81 = .ok (.iastore, 1) := by decide +kernel
theorem dX6_hour_82 : decode cX6_hour 82 = .ok (.iinc 2 1, 3) := by decide +kernel
theorem dX6_hour_85 : decode cX6_hour 85 = .ok (.goto (-71), 3) := by decide +kernel
theorem dX6_hour_88 : decode cX6_hour 88 = .ok (.aload_n 0, 1) := by decide +kernel
theorem dX6_hour_89 : decode cX6_hour 89 = .ok (.dup, 1) := by decide +kernel
theorem dX6_hour_90 : decode cX6_hour 90 = .ok (.getfield 88, 3) := by decide +kernel
theorem dX6_hour_93 : decode cX6_hour 93 = .ok (.iconst 1, 1) := by decide +kernel
theorem dX6_hour_94 : decode cX6_hour 94 = .ok (.iadd, 1) := by decide +kernel
theorem dX6_hour_95 : decode cX6_hour 95 = .ok (.putfield 88, 3) := by decide +kernel
theorem dX6_hour_98 : decode cX6_hour 98 = .ok (.iload_n 1, 1) := by decide +kernel
theorem dX6_hour_99 : decode cX6_hour 99 = .ok (.ireturn, 1) := by decide +kernel
set_option maxRecDepth 20000 in
theorem ggX6_isThing_X6_in : GoodIn wsX6_isThing wsX6_in := goodIn_r _ [5] (by decide +kernel) (by decide +kernel)
set_option maxRecDepth 20000 in
theorem gX6_isThing_X6_in : GoodIn wsX6_isThing (va_wsS RX6 70 yX6_in wsX6_in) := goodIn_app (goodIn_of _ (by decide +kernel)) ggX6_isThing_X6_in
theorem dX6_isThing_0 : decode cX6_isThing 0 = .ok (.iload_n 1, 1) := by decide +kernel
theorem dX6_isThing_1 : decode cX6_isThing 1 = .ok (.i2l, 1) := by decide +kernel
theorem dX6_isThing_2 : decode cX6_isThing 2 = .ok (.lconst 0, 1) := by decide +kernel
theorem dX6_isThing_3 : decode cX6_isThing 3 = .ok (.aload_n 0, 1) := by decide +kernel
theorem dX6_isThing_4 : decode cX6_isThing 4 = .ok (.getfield 91, 3) := by decide +kernel
theorem dX6_isThing_7 : decode cX6_isThing 7 = .ok (.iconst 1, 1) := by decide +kernel
theorem dX6_isThing_8 : decode cX6_isThing 8 = .ok (.isub, 1) := by decide +kernel
theorem dX6_isThing_9 : decode cX6_isThing 9 = .ok (.i2l, 1) := by decide +kernel
theorem dX6_isThing_10 : decode cX6_isThing 10 = .ok (.invokestatic 70, 3) := by decide +kernel
theorem dX6_isThing_13 : decode cX6_isThing 13 = .ok (.ireturn, 1) := by decide +kernel
set_option maxRecDepth 20000 in
theorem ggX6_thing_X6_isCell : GoodIn wsX6_thing wsX6_isCell := goodIn_r _ [8, 9, 10, 11, 7, 12] (by decide +kernel) (by decide +kernel)
set_option maxRecDepth 20000 in
theorem gX6_thing_X6_isCell : GoodIn wsX6_thing (va_wsS RX6 117 yX6_isCell wsX6_isCell) := goodIn_app (goodIn_of _ (by decide +kernel)) ggX6_thing_X6_isCell
set_option maxRecDepth 20000 in
theorem ggX6_thing_X6_in : GoodIn wsX6_thing wsX6_in := goodIn_r _ [12] (by decide +kernel) (by decide +kernel)
set_option maxRecDepth 20000 in
theorem gX6_thing_X6_in : GoodIn wsX6_thing (va_wsS RX6 70 yX6_in wsX6_in) := goodIn_app (goodIn_of _ (by decide +kernel)) ggX6_thing_X6_in
set_option maxRecDepth 20000 in
theorem ggX6_thing_X6_lacks : GoodIn wsX6_thing wsX6_lacks := goodIn_r _ [16, 17, 18, 19, 20, 21, 22, 23, 24, 25, 26, 27, 28, 29, 30, 31, 32, 33, 34, 35, 36, 37, 38, 39, 40, 41, 42, 43, 44, 45, 46, 47, 48, 49] (by decide +kernel) (by decide +kernel)
set_option maxRecDepth 20000 in
theorem gX6_thing_X6_lacks : GoodIn wsX6_thing (wsV RX6 122 RX6 yX6_lacks wsX6_lacks) := goodIn_app (goodIn_of _ (by decide +kernel)) ggX6_thing_X6_lacks
theorem dX6_thing_0 : decode cX6_thing 0 = .ok (.iload_n 2, 1) := by decide +kernel
theorem dX6_thing_1 : decode cX6_thing 1 = .ok (.invokestatic 117, 3) := by decide +kernel
theorem dX6_thing_4 : decode cX6_thing 4 = .ok (.ifCond .ne 6, 3) := by decide +kernel
theorem dX6_thing_7 : decode cX6_thing 7 = .ok (.bipush (-101), 2) := by decide +kernel
theorem dX6_thing_9 : decode cX6_thing 9 = .ok (.ireturn, 1) := by decide +kernel
theorem dX6_thing_10 : decode cX6_thing 10 = .ok (.iload_n 1, 1) := by decide +kernel
theorem dX6_thing_11 : decode cX6_thing 11 = .ok (.i2l, 1) := by decide +kernel
theorem dX6_thing_12 : decode cX6_thing 12 = .ok (.lconst 0, 1) := by decide +kernel
theorem dX6_thing_13 : decode cX6_thing 13 = .ok (.ldc2_w 134, 3) := by decide +kernel
theorem dX6_thing_16 : decode cX6_thing 16 = .ok (.invokestatic 70, 3) := by decide +kernel
theorem dX6_thing_19 : decode cX6_thing 19 = .ok (.ifCond .eq 15, 3) := by decide +kernel
theorem dX6_thing_22 : decode cX6_thing 22 = .ok (.iload_n 3, 1) := by decide +kernel
theorem dX6_thing_23 : decode cX6_thing 23 = .ok (.i2l, 1) := by decide +kernel
theorem dX6_thing_24 : decode cX6_thing 24 = .ok (.lconst 1, 1) := by decide +kernel
theorem dX6_thing_25 : decode cX6_thing 25 = .ok (.ldc2_w 136, 3) := by decide +kernel
theorem dX6_thing_28 : decode cX6_thing 28 = .ok (.invokestatic 70, 3) := by decide +kernel
theorem dX6_thing_31 : decode cX6_thing 31 = .ok (.ifCond .ne 6, 3) := by decide +kernel
theorem dX6_thing_34 : decode cX6_thing 34 = .ok (.bipush (-102), 2) := by decide +kernel
theorem dX6_thing_36 : decode cX6_thing 36 = .ok (.ireturn, 1) := by decide +kernel
theorem dX6_thing_37 : decode cX6_thing 37 = .ok (.aload_n 0, 1) := by decide +kernel
theorem dX6_thing_38 : decode cX6_thing 38 = .ok (.invokevirtual 122, 3) := by decide +kernel
theorem dX6_thing_41 : decode cX6_thing 41 = .ok (.ifCond .eq 6, 3) := by decide +kernel
theorem dX6_thing_44 : decode cX6_thing 44 = .ok (.bipush (-103), 2) := by decide +kernel
theorem dX6_thing_46 : decode cX6_thing 46 = .ok (.ireturn, 1) := by decide +kernel
theorem dX6_thing_47 : decode cX6_thing 47 = .ok (.aload_n 0, 1) := by decide +kernel
theorem dX6_thing_48 : decode cX6_thing 48 = .ok (.getfield 91, 3) := by decide +kernel
theorem dX6_thing_51 : decode cX6_thing 51 = .ok (.bipush 8, 2) := by decide +kernel
theorem dX6_thing_53 : decode cX6_thing 53 = .ok (.if_icmp .ne 6, 3) := by decide +kernel
theorem dX6_thing_56 : decode cX6_thing 56 = .ok (.bipush (-104), 2) := by decide +kernel
theorem dX6_thing_58 : decode cX6_thing 58 = .ok (.ireturn, 1) := by decide +kernel
theorem dX6_thing_59 : decode cX6_thing 59 = .ok (.aload_n 0, 1) := by decide +kernel
theorem dX6_thing_60 : decode cX6_thing 60 = .ok (.getfield 25, 3) := by decide +kernel
theorem dX6_thing_63 : decode cX6_thing 63 = .ok (.iconst 4, 1) := by decide +kernel
theorem dX6_thing_64 : decode cX6_thing 64 = .ok (.aload_n 0, 1) := by decide +kernel
theorem dX6_thing_65 : decode cX6_thing 65 = .ok (.getfield 91, 3) := by decide +kernel
theorem dX6_thing_68 : decode cX6_thing 68 = .ok (.imul, 1) := by decide +kernel
theorem dX6_thing_69 : decode cX6_thing 69 = .ok (.iload_n 1, 1) := by decide +kernel
theorem dX6_thing_70 : decode cX6_thing 70 = .ok (.iastore, 1) := by decide +kernel
theorem dX6_thing_71 : decode cX6_thing 71 = .ok (.aload_n 0, 1) := by decide +kernel
theorem dX6_thing_72 : decode cX6_thing 72 = .ok (.getfield 25, 3) := by decide +kernel
theorem dX6_thing_75 : decode cX6_thing 75 = .ok (.iconst 4, 1) := by decide +kernel
theorem dX6_thing_76 : decode cX6_thing 76 = .ok (.aload_n 0, 1) := by decide +kernel
theorem dX6_thing_77 : decode cX6_thing 77 = .ok (.getfield 91, 3) := by decide +kernel
theorem dX6_thing_80 : decode cX6_thing 80 = .ok (.imul, 1) := by decide +kernel
theorem dX6_thing_81 : decode cX6_thing 81 = .ok (.iconst 1, 1) := by decide +kernel
theorem dX6_thing_82 : decode cX6_thing 82 = .ok (.iadd, 1) := by decide +kernel
theorem dX6_thing_83 : decode cX6_thing 83 = .ok (.iload_n 2, 1) := by decide +kernel
theorem dX6_thing_84 : decode cX6_thing 84 = .ok (.iastore, 1) := by decide +kernel
theorem dX6_thing_85 : decode cX6_thing 85 = .ok (.aload_n 0, 1) := by decide +kernel
theorem dX6_thing_86 : decode cX6_thing 86 = .ok (.getfield 25, 3) := by decide +kernel
theorem dX6_thing_89 : decode cX6_thing 89 = .ok (.iconst 4, 1) := by decide +kernel
theorem dX6_thing_90 : decode cX6_thing 90 = .ok (.aload_n 0, 1) := by decide +kernel
theorem dX6_thing_91 : decode cX6_thing 91 = .ok (.getfield 91, 3) := by decide +kernel
theorem dX6_thing_94 : decode cX6_thing 94 = .ok (.imul, 1) := by decide +kernel
theorem dX6_thing_95 : decode cX6_thing 95 = .ok (.iconst 2, 1) := by decide +kernel
theorem dX6_thing_96 : decode cX6_thing 96 = .ok (.iadd, 1) := by decide +kernel
theorem dX6_thing_97 : decode cX6_thing 97 = .ok (.iload_n 3, 1) := by decide +kernel
theorem dX6_thing_98 : decode cX6_thing 98 = .ok (.iastore, 1) := by decide +kernel
theorem dX6_thing_99 : decode cX6_thing 99 = .ok (.aload_n 0, 1) := by decide +kernel
theorem dX6_thing_100 : decode cX6_thing 100 = .ok (.dup, 1) := by decide +kernel
theorem dX6_thing_101 : decode cX6_thing 101 = .ok (.getfield 91, 3) := by decide +kernel
theorem dX6_thing_104 : decode cX6_thing 104 = .ok (.iconst 1, 1) := by decide +kernel
theorem dX6_thing_105 : decode cX6_thing 105 = .ok (.iadd, 1) := by decide +kernel
theorem dX6_thing_106 : decode cX6_thing 106 = .ok (.putfield 91, 3) := by decide +kernel
theorem dX6_thing_109 : decode cX6_thing 109 = .ok (.aload_n 0, 1) := by decide +kernel
theorem dX6_thing_110 : decode cX6_thing 110 = .ok (.getfield 91, 3) := by decide +kernel
theorem dX6_thing_113 : decode cX6_thing 113 = .ok (.iconst 1, 1) := by decide +kernel
theorem dX6_thing_114 : decode cX6_thing 114 = .ok (.isub, 1) := by decide +kernel
theorem dX6_thing_115 : decode cX6_thing 115 = .ok (.ireturn, 1) := by decide +kernel
theorem dX6_apart_0 : decode cX6_apart 0 = .ok (.iload_n 0, 1) := by decide +kernel
theorem dX6_apart_1 : decode cX6_apart 1 = .ok (.iload_n 1, 1) := by decide +kernel
theorem dX6_apart_2 : decode cX6_apart 2 = .ok (.if_icmp .ge 9, 3) := by decide +kernel
theorem dX6_apart_5 : decode cX6_apart 5 = .ok (.iload_n 1, 1) := by decide +kernel
theorem dX6_apart_6 : decode cX6_apart 6 = .ok (.iload_n 0, 1) := by decide +kernel
theorem dX6_apart_7 : decode cX6_apart 7 = .ok (.isub, 1) := by decide +kernel
theorem dX6_apart_8 : decode cX6_apart 8 = .ok (.goto 6, 3) := by decide +kernel
theorem dX6_apart_11 : decode cX6_apart 11 = .ok (.iload_n 0, 1) := by decide +kernel
theorem dX6_apart_12 : decode cX6_apart 12 = .ok (.iload_n 1, 1) := by decide +kernel
theorem dX6_apart_13 : decode cX6_apart 13 = .ok (.isub, 1) := by decide +kernel
theorem dX6_apart_14 : decode cX6_apart 14 = .ok (.ireturn, 1) := by decide +kernel
set_option maxRecDepth 20000 in
theorem ggX6_nearest_X6_apart : GoodIn wsX6_nearest wsX6_apart := goodIn_r _ [4] (by decide +kernel) (by decide +kernel)
set_option maxRecDepth 20000 in
theorem gX6_nearest_X6_apart : GoodIn wsX6_nearest (va_wsS RX6 138 yX6_apart wsX6_apart) := goodIn_app (goodIn_of _ (by decide +kernel)) ggX6_nearest_X6_apart
theorem dX6_nearest_0 : decode cX6_nearest 0 = .ok (.iconst (-1), 1) := by decide +kernel
theorem dX6_nearest_1 : decode cX6_nearest 1 = .ok (.istore_n 2, 1) := by decide +kernel
theorem dX6_nearest_2 : decode cX6_nearest 2 = .ok (.bipush 7, 2) := by decide +kernel
theorem dX6_nearest_4 : decode cX6_nearest 4 = .ok (.istore_n 3, 1) := by decide +kernel
theorem dX6_nearest_5 : decode cX6_nearest 5 = .ok (.iload_n 3, 1) := by decide +kernel
theorem dX6_nearest_6 : decode cX6_nearest 6 = .ok (.ifCond .lt 54, 3) := by decide +kernel
theorem dX6_nearest_9 : decode cX6_nearest 9 = .ok (.iload_n 1, 1) := by decide +kernel
theorem dX6_nearest_10 : decode cX6_nearest 10 = .ok (.iload_n 3, 1) := by decide +kernel
theorem dX6_nearest_11 : decode cX6_nearest 11 = .ok (.ishr, 1) := by decide +kernel
theorem dX6_nearest_12 : decode cX6_nearest 12 = .ok (.iconst 1, 1) := by decide +kernel
theorem dX6_nearest_13 : decode cX6_nearest 13 = .ok (.iand, 1) := by decide +kernel
theorem dX6_nearest_14 : decode cX6_nearest 14 = .ok (.iconst 1, 1) := by decide +kernel
theorem dX6_nearest_15 : decode cX6_nearest 15 = .ok (.if_icmp .ne 25, 3) := by decide +kernel
theorem dX6_nearest_18 : decode cX6_nearest 18 = .ok (.iload_n 2, 1) := by decide +kernel
theorem dX6_nearest_19 : decode cX6_nearest 19 = .ok (.iconst (-1), 1) := by decide +kernel
theorem dX6_nearest_20 : decode cX6_nearest 20 = .ok (.if_icmp .eq 16, 3) := by decide +kernel
theorem dX6_nearest_23 : decode cX6_nearest 23 = .ok (.iload_n 3, 1) := by decide +kernel
theorem dX6_nearest_24 : decode cX6_nearest 24 = .ok (.iload_n 0, 1) := by decide +kernel
theorem dX6_nearest_25 : decode cX6_nearest 25 = .ok (.invokestatic 138, 3) := by decide +kernel
theorem dX6_nearest_28 : decode cX6_nearest 28 = .ok (.iload_n 2, 1) := by decide +kernel
theorem dX6_nearest_29 : decode cX6_nearest 29 = .ok (.iload_n 0, 1) := by decide +kernel
theorem dX6_nearest_30 : decode cX6_nearest 30 = .ok (.invokestatic 138, 3) := by decide +kernel
theorem dX6_nearest_33 : decode cX6_nearest 33 = .ok (.if_icmp .gt 7, 3) := by decide +kernel
theorem dX6_nearest_36 : decode cX6_nearest 36 = .ok (.iconst 1, 1) := by decide +kernel
theorem dX6_nearest_37 : decode cX6_nearest 37 = .ok (.goto 4, 3) := by decide +kernel
theorem dX6_nearest_40 : decode cX6_nearest 40 = .ok (.iconst 0, 1) := by decide +kernel
theorem dX6_nearest_41 : decode cX6_nearest 41 = .ok (.istore 4, 2) := by decide +kernel
theorem dX6_nearest_43 : decode cX6_nearest 43 = .ok (.iload 4, 2) := by decide +kernel
theorem dX6_nearest_45 : decode cX6_nearest 45 = .ok (.ifCond .eq 7, 3) := by decide +kernel
theorem dX6_nearest_48 : decode cX6_nearest 48 = .ok (.iload_n 3, 1) := by decide +kernel
theorem dX6_nearest_49 : decode cX6_nearest 49 = .ok (.goto 4, 3) := by decide +kernel
theorem dX6_nearest_52 : decode cX6_nearest 52 = .ok (.iload_n 2, 1) := by decide +kernel
theorem dX6_nearest_53 : decode cX6_nearest 53 = .ok (.istore_n 2, 1) := by decide +kernel
theorem dX6_nearest_54 : decode cX6_nearest 54 = .ok (.iinc 3 (-1), 3) := by decide +kernel
theorem dX6_nearest_57 : decode cX6_nearest 57 = .ok (.goto (-52), 3) := by decide +kernel
theorem dX6_nearest_60 : decode cX6_nearest 60 = .ok (.iload_n 2, 1) := by decide +kernel
theorem dX6_nearest_61 : decode cX6_nearest 61 = .ok (.ireturn, 1) := by decide +kernel
set_option maxRecDepth 20000 in
theorem ggX6_tell_X6_nearest : GoodIn wsX6_tell wsX6_nearest := goodIn_r _ [7, 8, 9, 6, 10] (by decide +kernel) (by decide +kernel)
set_option maxRecDepth 20000 in
theorem gX6_tell_X6_nearest : GoodIn wsX6_tell (va_wsS RX6 141 yX6_nearest wsX6_nearest) := goodIn_app (goodIn_of _ (by decide +kernel)) ggX6_tell_X6_nearest
set_option maxRecDepth 20000 in
theorem ggX6_tell_X6_in : GoodIn wsX6_tell wsX6_in := goodIn_r _ [13] (by decide +kernel) (by decide +kernel)
set_option maxRecDepth 20000 in
theorem gX6_tell_X6_in : GoodIn wsX6_tell (va_wsS RX6 70 yX6_in wsX6_in) := goodIn_app (goodIn_of _ (by decide +kernel)) ggX6_tell_X6_in
theorem dX6_tell_0 : decode cX6_tell 0 = .ok (.iload_n 2, 1) := by decide +kernel
theorem dX6_tell_1 : decode cX6_tell 1 = .ok (.iconst 3, 1) := by decide +kernel
theorem dX6_tell_2 : decode cX6_tell 2 = .ok (.if_icmp .ne 38, 3) := by decide +kernel
theorem dX6_tell_5 : decode cX6_tell 5 = .ok (.aload_n 0, 1) := by decide +kernel
theorem dX6_tell_6 : decode cX6_tell 6 = .ok (.getfield 25, 3) := by decide +kernel
theorem dX6_tell_9 : decode cX6_tell 9 = .ok (.iconst 4, 1) := by decide +kernel
theorem dX6_tell_10 : decode cX6_tell 10 = .ok (.iload_n 1, 1) := by decide +kernel
theorem dX6_tell_11 : decode cX6_tell 11 = .ok (.imul, 1) := by decide +kernel
theorem dX6_tell_12 : decode cX6_tell 12 = .ok (.iconst 1, 1) := by decide +kernel
theorem dX6_tell_13 : decode cX6_tell 13 = .ok (.iadd, 1) := by decide +kernel
theorem dX6_tell_14 : decode cX6_tell 14 = .ok (.iaload, 1) := by decide +kernel
theorem dX6_tell_15 : decode cX6_tell 15 = .ok (.ifCond .ge 7, 3) := by decide +kernel
theorem dX6_tell_18 : decode cX6_tell 18 = .ok (.iconst (-1), 1) := by decide +kernel
theorem dX6_tell_19 : decode cX6_tell 19 = .ok (.goto 20, 3) := by decide +kernel
theorem dX6_tell_22 : decode cX6_tell 22 = .ok (.aload_n 0, 1) := by decide +kernel
theorem dX6_tell_23 : decode cX6_tell 23 = .ok (.getfield 25, 3) := by decide +kernel
theorem dX6_tell_26 : decode cX6_tell 26 = .ok (.iconst 4, 1) := by decide +kernel
theorem dX6_tell_27 : decode cX6_tell 27 = .ok (.iload_n 1, 1) := by decide +kernel
theorem dX6_tell_28 : decode cX6_tell 28 = .ok (.imul, 1) := by decide +kernel
theorem dX6_tell_29 : decode cX6_tell 29 = .ok (.iconst 1, 1) := by decide +kernel
theorem dX6_tell_30 : decode cX6_tell 30 = .ok (.iadd, 1) := by decide +kernel
theorem dX6_tell_31 : decode cX6_tell 31 = .ok (.iaload, 1) := by decide +kernel
theorem dX6_tell_32 : decode cX6_tell 32 = .ok (.aload_n 0, 1) := by decide +kernel
theorem dX6_tell_33 : decode cX6_tell 33 = .ok (.getfield 85, 3) := by decide +kernel
theorem dX6_tell_36 : decode cX6_tell 36 = .ok (.invokestatic 141, 3) := by decide +kernel
theorem dX6_tell_39 : decode cX6_tell 39 = .ok (.ireturn, 1) := by decide +kernel
theorem dX6_tell_40 : decode cX6_tell 40 = .ok (.iload_n 2, 1) := by decide +kernel
theorem dX6_tell_41 : decode cX6_tell 41 = .ok (.i2l, 1) := by decide +kernel
theorem dX6_tell_42 : decode cX6_tell 42 = .ok (.lconst 0, 1) := by decide +kernel
theorem dX6_tell_43 : decode cX6_tell 43 = .ok (.ldc2_w 144, 3) := by decide +kernel
theorem dX6_tell_46 : decode cX6_tell 46 = .ok (.invokestatic 70, 3) := by decide +kernel
theorem dX6_tell_49 : decode cX6_tell 49 = .ok (.ifCond .eq 16, 3) := by decide +kernel
theorem dX6_tell_52 : decode cX6_tell 52 = .ok (.aload_n 0, 1) := by decide +kernel
theorem dX6_tell_53 : decode cX6_tell 53 = .ok (.getfield 25, 3) := by decide +kernel
theorem dX6_tell_56 : decode cX6_tell 56 = .ok (.iconst 4, 1) := by decide +kernel
theorem dX6_tell_57 : decode cX6_tell 57 = .ok (.iload_n 1, 1) := by decide +kernel
theorem dX6_tell_58 : decode cX6_tell 58 = .ok (.imul, 1) := by decide +kernel
theorem dX6_tell_59 : decode cX6_tell 59 = .ok (.iload_n 2, 1) := by decide +kernel
theorem dX6_tell_60 : decode cX6_tell 60 = .ok (.iadd, 1) := by decide +kernel
theorem dX6_tell_61 : decode cX6_tell 61 = .ok (.iaload, 1) := by decide +kernel
theorem dX6_tell_62 : decode cX6_tell 62 = .ok (.goto 5, 3) := by decide +kernel
theorem dX6_tell_65 : decode cX6_tell 65 = .ok (.bipush (-102), 2) := by decide +kernel
theorem dX6_tell_67 : decode cX6_tell 67 = .ok (.ireturn, 1) := by decide +kernel
set_option maxRecDepth 20000 in
theorem ggX6_about_X6_isThing : GoodIn wsX6_about wsX6_isThing := goodIn_r _ [5, 6, 7, 8, 4, 9, 23, 24, 25, 26, 27, 28, 29, 30, 31, 32, 33, 34, 35, 36, 37, 38, 39, 40, 41, 42, 43, 44, 45, 46, 47, 48, 49, 50, 51, 52, 53, 54] (by decide +kernel) (by decide +kernel)
set_option maxRecDepth 20000 in
theorem gX6_about_X6_isThing : GoodIn wsX6_about (wsV RX6 146 RX6 yX6_isThing wsX6_isThing) := goodIn_app (goodIn_of _ (by decide +kernel)) ggX6_about_X6_isThing
set_option maxRecDepth 20000 in
theorem ggX6_about_X6_tell : GoodIn wsX6_about wsX6_tell := goodIn_r _ [13, 14, 15, 16, 17, 18, 4, 19, 20, 21, 22, 7, 8, 9, 23, 24, 25, 26, 27, 28, 29, 30, 31, 32, 33, 34, 35, 36, 37, 38, 39, 40, 41, 42, 43, 44, 45, 46, 47, 48, 49, 50, 51, 52, 53, 54] (by decide +kernel) (by decide +kernel)
set_option maxRecDepth 20000 in
theorem gX6_about_X6_tell : GoodIn wsX6_about (wsV RX6 149 RX6 yX6_tell wsX6_tell) := goodIn_app (goodIn_of _ (by decide +kernel)) ggX6_about_X6_tell
theorem dX6_about_0 : decode cX6_about 0 = .ok (.aload_n 0, 1) := by decide +kernel
theorem dX6_about_1 : decode cX6_about 1 = .ok (.iload_n 1, 1) := by decide +kernel
theorem dX6_about_2 : decode cX6_about 2 = .ok (.invokevirtual 146, 3) := by decide +kernel
theorem dX6_about_5 : decode cX6_about 5 = .ok (.ifCond .eq 12, 3) := by decide +kernel
theorem dX6_about_8 : decode cX6_about 8 = .ok (.aload_n 0, 1) := by decide +kernel
theorem dX6_about_9 : decode cX6_about 9 = .ok (.iload_n 1, 1) := by decide +kernel
theorem dX6_about_10 : decode cX6_about 10 = .ok (.iload_n 2, 1) := by decide +kernel
theorem dX6_about_11 : decode cX6_about 11 = .ok (.invokevirtual 149, 3) := by decide +kernel
theorem dX6_about_14 : decode cX6_about 14 = .ok (.goto 5, 3) := by decide +kernel
theorem dX6_about_17 : decode cX6_about 17 = .ok (.bipush (-101), 2) := by decide +kernel
theorem dX6_about_19 : decode cX6_about 19 = .ok (.ireturn, 1) := by decide +kernel
set_option maxRecDepth 20000 in
theorem ggX6_as_X6_isThing : GoodIn wsX6_as wsX6_isThing := goodIn_r _ [7, 8, 9, 10, 6, 11, 12, 13, 14, 15, 16, 17, 18, 19, 20, 21, 22, 23, 24, 25, 26, 27, 28, 29, 30, 31, 32, 33, 34, 35, 36, 37, 38, 39, 40, 41, 42, 43] (by decide +kernel) (by decide +kernel)
set_option maxRecDepth 20000 in
theorem gX6_as_X6_isThing : GoodIn wsX6_as (wsV RX6 146 RX6 yX6_isThing wsX6_isThing) := goodIn_app (goodIn_of _ (by decide +kernel)) ggX6_as_X6_isThing
set_option maxRecDepth 20000 in
theorem ggX6_as_X6_in : GoodIn wsX6_as wsX6_in := goodIn_r _ [11] (by decide +kernel) (by decide +kernel)
set_option maxRecDepth 20000 in
theorem gX6_as_X6_in : GoodIn wsX6_as (va_wsS RX6 70 yX6_in wsX6_in) := goodIn_app (goodIn_of _ (by decide +kernel)) ggX6_as_X6_in
theorem dX6_as_0 : decode cX6_as 0 = .ok (.aload_n 0, 1) := by decide +kernel
theorem dX6_as_1 : decode cX6_as 1 = .ok (.iload_n 1, 1) := by decide +kernel
theorem dX6_as_2 : decode cX6_as 2 = .ok (.invokevirtual 146, 3) := by decide +kernel
theorem dX6_as_5 : decode cX6_as 5 = .ok (.ifCond .ne 6, 3) := by decide +kernel
theorem dX6_as_8 : decode cX6_as 8 = .ok (.bipush (-101), 2) := by decide +kernel
theorem dX6_as_10 : decode cX6_as 10 = .ok (.ireturn, 1) := by decide +kernel
theorem dX6_as_11 : decode cX6_as 11 = .ok (.iload_n 2, 1) := by decide +kernel
theorem dX6_as_12 : decode cX6_as 12 = .ok (.i2l, 1) := by decide +kernel
theorem dX6_as_13 : decode cX6_as 13 = .ok (.lconst 0, 1) := by decide +kernel
theorem dX6_as_14 : decode cX6_as 14 = .ok (.ldc2_w 134, 3) := by decide +kernel
theorem dX6_as_17 : decode cX6_as 17 = .ok (.invokestatic 70, 3) := by decide +kernel
theorem dX6_as_20 : decode cX6_as 20 = .ok (.ifCond .ne 6, 3) := by decide +kernel
theorem dX6_as_23 : decode cX6_as 23 = .ok (.bipush (-102), 2) := by decide +kernel
theorem dX6_as_25 : decode cX6_as 25 = .ok (.ireturn, 1) := by decide +kernel
theorem dX6_as_26 : decode cX6_as 26 = .ok (.aload_n 0, 1) := by decide +kernel
theorem dX6_as_27 : decode cX6_as 27 = .ok (.getfield 25, 3) := by decide +kernel
theorem dX6_as_30 : decode cX6_as 30 = .ok (.iconst 4, 1) := by decide +kernel
theorem dX6_as_31 : decode cX6_as 31 = .ok (.iload_n 1, 1) := by decide +kernel
theorem dX6_as_32 : decode cX6_as 32 = .ok (.imul, 1) := by decide +kernel
theorem dX6_as_33 : decode cX6_as 33 = .ok (.iaload, 1) := by decide +kernel
theorem dX6_as_34 : decode cX6_as 34 = .ok (.istore_n 3, 1) := by decide +kernel
theorem dX6_as_35 : decode cX6_as 35 = .ok (.iload_n 2, 1) := by decide +kernel
theorem dX6_as_36 : decode cX6_as 36 = .ok (.ifCond .eq 18, 3) := by decide +kernel
theorem dX6_as_39 : decode cX6_as 39 = .ok (.iload_n 2, 1) := by decide +kernel
theorem dX6_as_40 : decode cX6_as 40 = .ok (.iload_n 3, 1) := by decide +kernel
theorem dX6_as_41 : decode cX6_as 41 = .ok (.if_icmp .eq 13, 3) := by decide +kernel
theorem dX6_as_44 : decode cX6_as 44 = .ok (.iload_n 2, 1) := by decide +kernel
theorem dX6_as_45 : decode cX6_as 45 = .ok (.iconst 1, 1) := by decide +kernel
theorem dX6_as_46 : decode cX6_as 46 = .ok (.if_icmp .ne 12, 3) := by decide +kernel
theorem dX6_as_49 : decode cX6_as 49 = .ok (.iload_n 3, 1) := by decide +kernel
theorem dX6_as_50 : decode cX6_as 50 = .ok (.iconst 4, 1) := by decide +kernel
theorem dX6_as_51 : decode cX6_as 51 = .ok (.if_icmp .ne 7, 3) := by decide +kernel
theorem dX6_as_54 : decode cX6_as 54 = .ok (.iconst 1, 1) := by decide +kernel
theorem dX6_as_55 : decode cX6_as 55 = .ok (.goto 4, 3) := by decide +kernel
theorem dX6_as_58 : decode cX6_as 58 = .ok (.iconst 0, 1) := by decide +kernel
theorem dX6_as_59 : decode cX6_as 59 = .ok (.istore 4, 2) := by decide +kernel
theorem dX6_as_61 : decode cX6_as 61 = .ok (.iload 4, 2) := by decide +kernel
theorem dX6_as_63 : decode cX6_as 63 = .ok (.ifCond .eq 7, 3) := by decide +kernel
theorem dX6_as_66 : decode cX6_as 66 = .ok (.iload_n 1, 1) := by decide +kernel
theorem dX6_as_67 : decode cX6_as 67 = .ok (.goto 4, 3) := by decide +kernel
theorem dX6_as_70 : decode cX6_as 70 = .ok (.iconst (-1), 1) := by decide +kernel
theorem dX6_as_71 : decode cX6_as 71 = .ok (.ireturn, 1) := by decide +kernel
set_option maxRecDepth 20000 in
theorem ggX6_take_X6_isCell : GoodIn wsX6_take wsX6_isCell := goodIn_r _ [8, 9, 10, 11, 7, 12] (by decide +kernel) (by decide +kernel)
set_option maxRecDepth 20000 in
theorem gX6_take_X6_isCell : GoodIn wsX6_take (va_wsS RX6 117 yX6_isCell wsX6_isCell) := goodIn_app (goodIn_of _ (by decide +kernel)) ggX6_take_X6_isCell
set_option maxRecDepth 20000 in
theorem ggX6_take_X6_lacks : GoodIn wsX6_take wsX6_lacks := goodIn_r _ [16, 17, 32, 33, 34, 35, 36, 37, 38, 39, 40, 41, 42, 43, 44, 45, 46, 47, 48, 49, 50, 51, 52, 53, 54, 55, 56, 57, 58, 59, 60, 61, 62, 63] (by decide +kernel) (by decide +kernel)
set_option maxRecDepth 20000 in
theorem gX6_take_X6_lacks : GoodIn wsX6_take (wsV RX6 122 RX6 yX6_lacks wsX6_lacks) := goodIn_app (goodIn_of _ (by decide +kernel)) ggX6_take_X6_lacks
set_option maxRecDepth 20000 in
theorem ggX6_take_X6_isDry : GoodIn wsX6_take wsX6_isDry := goodIn_r _ [21, 22, 23, 24, 7, 25, 26, 17, 27, 28, 29, 30, 31, 32, 33, 34, 35, 36, 37, 38, 39, 40, 41, 42, 43, 44, 45, 46, 47, 48, 49, 50, 51, 52, 53, 54, 55, 56, 57, 58, 59, 60, 61, 62, 63] (by decide +kernel) (by decide +kernel)
set_option maxRecDepth 20000 in
theorem gX6_take_X6_isDry : GoodIn wsX6_take (wsV RX6 110 RX6 yX6_isDry wsX6_isDry) := goodIn_app (goodIn_of _ (by decide +kernel)) ggX6_take_X6_isDry
theorem dX6_take_0 : decode cX6_take 0 = .ok (.iload_n 1, 1) := by decide +kernel
theorem dX6_take_1 : decode cX6_take 1 = .ok (.invokestatic 117, 3) := by decide +kernel
theorem dX6_take_4 : decode cX6_take 4 = .ok (.ifCond .ne 6, 3) := by decide +kernel
theorem dX6_take_7 : decode cX6_take 7 = .ok (.bipush (-101), 2) := by decide +kernel
theorem dX6_take_9 : decode cX6_take 9 = .ok (.ireturn, 1) := by decide +kernel
theorem dX6_take_10 : decode cX6_take 10 = .ok (.aload_n 0, 1) := by decide +kernel
theorem dX6_take_11 : decode cX6_take 11 = .ok (.invokevirtual 122, 3) := by decide +kernel
theorem dX6_take_14 : decode cX6_take 14 = .ok (.ifCond .ne 19, 3) := by decide +kernel
theorem dX6_take_17 : decode cX6_take 17 = .ok (.aload_n 0, 1) := by decide +kernel
theorem dX6_take_18 : decode cX6_take 18 = .ok (.iload_n 1, 1) := by decide +kernel
theorem dX6_take_19 : decode cX6_take 19 = .ok (.aload_n 0, 1) := by decide +kernel
theorem dX6_take_20 : decode cX6_take 20 = .ok (.getfield 88, 3) := by decide +kernel
theorem dX6_take_23 : decode cX6_take 23 = .ok (.aload_n 0, 1) := by decide +kernel
theorem dX6_take_24 : decode cX6_take 24 = .ok (.getfield 47, 3) := by decide +kernel
theorem dX6_take_27 : decode cX6_take 27 = .ok (.invokevirtual 110, 3) := by decide +kernel
theorem dX6_take_30 : decode cX6_take 30 = .ok (.ifCond .ne 6, 3) := by decide +kernel
theorem dX6_take_33 : decode cX6_take 33 = .ok (.bipush (-103), 2) := by decide +kernel
theorem dX6_take_35 : decode cX6_take 35 = .ok (.ireturn, 1) := by decide +kernel
theorem dX6_take_36 : decode cX6_take 36 = .ok (.iconst 0, 1) := by decide +kernel
theorem dX6_take_37 : decode cX6_take 37 = .ok (.istore_n 2, 1) := by decide +kernel
theorem dX6_take_38 : decode cX6_take 38 = .ok (.iconst 0, 1) := by decide +kernel
theorem dX6_take_39 : decode cX6_take 39 = .ok (.istore_n 3, 1) := by decide +kernel
theorem dX6_take_40 : decode cX6_take 40 = .ok (.iload_n 3, 1) := by decide +kernel
theorem dX6_take_41 : decode cX6_take 41 = .ok (.aload_n 0, 1) := by decide +kernel
theorem dX6_take_42 : decode cX6_take 42 = .ok (.getfield 91, 3) := by decide +kernel
theorem dX6_take_45 : decode cX6_take 45 = .ok (.if_icmp .ge 47, 3) := by decide +kernel
theorem dX6_take_48 : decode cX6_take 48 = .ok (.aload_n 0, 1) := by decide +kernel
theorem dX6_take_49 : decode cX6_take 49 = .ok (.getfield 25, 3) := by decide +kernel
theorem dX6_take_52 : decode cX6_take 52 = .ok (.iconst 4, 1) := by decide +kernel
theorem dX6_take_53 : decode cX6_take 53 = .ok (.iload_n 3, 1) := by decide +kernel
theorem dX6_take_54 : decode cX6_take 54 = .ok (.imul, 1) := by decide +kernel
theorem dX6_take_55 : decode cX6_take 55 = .ok (.iconst 1, 1) := by decide +kernel
theorem dX6_take_56 : decode cX6_take 56 = .ok (.iadd, 1) := by decide +kernel
theorem dX6_take_57 : decode cX6_take 57 = .ok (.iaload, 1) := by decide +kernel
theorem dX6_take_58 : decode cX6_take 58 = .ok (.iload_n 1, 1) := by decide +kernel
theorem dX6_take_59 : decode cX6_take 59 = .ok (.if_icmp .ne 27, 3) := by decide +kernel
theorem dX6_take_62 : decode cX6_take 62 = .ok (.iload_n 2, 1) := by decide +kernel
theorem dX6_take_63 : decode cX6_take 63 = .ok (.aload_n 0, 1) := by decide +kernel
theorem dX6_take_64 : decode cX6_take 64 = .ok (.getfield 25, 3) := by decide +kernel
theorem dX6_take_67 : decode cX6_take 67 = .ok (.iconst 4, 1) := by decide +kernel
theorem dX6_take_68 : decode cX6_take 68 = .ok (.iload_n 3, 1) := by decide +kernel
theorem dX6_take_69 : decode cX6_take 69 = .ok (.imul, 1) := by decide +kernel
theorem dX6_take_70 : decode cX6_take 70 = .ok (.iconst 2, 1) := by decide +kernel
theorem dX6_take_71 : decode cX6_take 71 = .ok (.iadd, 1) := by decide +kernel
theorem dX6_take_72 : decode cX6_take 72 = .ok (.iaload, 1) := by decide +kernel
theorem dX6_take_73 : decode cX6_take 73 = .ok (.iadd, 1) := by decide +kernel
theorem dX6_take_74 : decode cX6_take 74 = .ok (.istore_n 2, 1) := by decide +kernel
theorem dX6_take_75 : decode cX6_take 75 = .ok (.aload_n 0, 1) := by decide +kernel
theorem dX6_take_76 : decode cX6_take 76 = .ok (.getfield 25, 3) := by decide +kernel
theorem dX6_take_79 : decode cX6_take 79 = .ok (.iconst 4, 1) := by decide +kernel
theorem dX6_take_80 : decode cX6_take 80 = .ok (.iload_n 3, 1) := by decide +kernel
theorem dX6_take_81 : decode cX6_take 81 = .ok (.imul, 1) := by decide +kernel
theorem dX6_take_82 : decode cX6_take 82 = .ok (.iconst 1, 1) := by decide +kernel
theorem dX6_take_83 : decode cX6_take 83 = .ok (.iadd, 1) := by decide +kernel
theorem dX6_take_84 : decode cX6_take 84 = .ok (.iconst (-1), 1) := by decide +kernel
theorem dX6_take_85 : decode cX6_take 85 = .ok (.iastore, 1) := by decide +kernel
theorem dX6_take_86 : decode cX6_take 86 = .ok (.iinc 3 1, 3) := by decide +kernel
theorem dX6_take_89 : decode cX6_take 89 = .ok (.goto (-49), 3) := by decide +kernel
theorem dX6_take_92 : decode cX6_take 92 = .ok (.iload_n 2, 1) := by decide +kernel
theorem dX6_take_93 : decode cX6_take 93 = .ok (.ireturn, 1) := by decide +kernel
set_option maxRecDepth 20000 in
theorem ggX6_shareOf_X6_nearest : GoodIn wsX6_shareOf wsX6_nearest := goodIn_r _ [6, 7, 8, 5, 9] (by decide +kernel) (by decide +kernel)
set_option maxRecDepth 20000 in
theorem gX6_shareOf_X6_nearest : GoodIn wsX6_shareOf (va_wsS RX6 141 yX6_nearest wsX6_nearest) := goodIn_app (goodIn_of _ (by decide +kernel)) ggX6_shareOf_X6_nearest
theorem dX6_shareOf_0 : decode cX6_shareOf 0 = .ok (.iconst 0, 1) := by decide +kernel
theorem dX6_shareOf_1 : decode cX6_shareOf 1 = .ok (.istore_n 3, 1) := by decide +kernel
theorem dX6_shareOf_2 : decode cX6_shareOf 2 = .ok (.iconst 0, 1) := by decide +kernel
theorem dX6_shareOf_3 : decode cX6_shareOf 3 = .ok (.istore 4, 2) := by decide +kernel
theorem dX6_shareOf_5 : decode cX6_shareOf 5 = .ok (.iload 4, 2) := by decide +kernel
theorem dX6_shareOf_7 : decode cX6_shareOf 7 = .ok (.aload_n 0, 1) := by decide +kernel
theorem dX6_shareOf_8 : decode cX6_shareOf 8 = .ok (.getfield 91, 3) := by decide +kernel
theorem dX6_shareOf_11 : decode cX6_shareOf 11 = .ok (.if_icmp .ge 60, 3) := by decide +kernel
theorem dX6_shareOf_14 : decode cX6_shareOf 14 = .ok (.iload_n 3, 1) := by decide +kernel
theorem dX6_shareOf_15 : decode cX6_shareOf 15 = .ok (.aload_n 0, 1) := by decide +kernel
theorem dX6_shareOf_16 : decode cX6_shareOf 16 = .ok (.getfield 25, 3) := by decide +kernel
theorem dX6_shareOf_19 : decode cX6_shareOf 19 = .ok (.iconst 4, 1) := by decide +kernel
theorem dX6_shareOf_20 : decode cX6_shareOf 20 = .ok (.iload 4, 2) := by decide +kernel
theorem dX6_shareOf_22 : decode cX6_shareOf 22 = .ok (.imul, 1) := by decide +kernel
theorem dX6_shareOf_23 : decode cX6_shareOf 23 = .ok (.iconst 1, 1) := by decide +kernel
theorem dX6_shareOf_24 : decode cX6_shareOf 24 = .ok (.iadd, 1) := by decide +kernel
theorem dX6_shareOf_25 : decode cX6_shareOf 25 = .ok (.iaload, 1) := by decide +kernel
theorem dX6_shareOf_26 : decode cX6_shareOf 26 = .ok (.ifCond .lt 36, 3) := by decide +kernel
theorem dX6_shareOf_29 : decode cX6_shareOf 29 = .ok (.aload_n 0, 1) := by decide +kernel
theorem dX6_shareOf_30 : decode cX6_shareOf 30 = .ok (.getfield 25, 3) := by decide +kernel
theorem dX6_shareOf_33 : decode cX6_shareOf 33 = .ok (.iconst 4, 1) := by decide +kernel
theorem dX6_shareOf_34 : decode cX6_shareOf 34 = .ok (.iload 4, 2) := by decide +kernel
theorem dX6_shareOf_36 : decode cX6_shareOf 36 = .ok (.imul, 1) := by decide +kernel
theorem dX6_shareOf_37 : decode cX6_shareOf 37 = .ok (.iconst 1, 1) := by decide +kernel
theorem dX6_shareOf_38 : decode cX6_shareOf 38 = .ok (.iadd, 1) := by decide +kernel
theorem dX6_shareOf_39 : decode cX6_shareOf 39 = .ok (.iaload, 1) := by decide +kernel
theorem dX6_shareOf_40 : decode cX6_shareOf 40 = .ok (.iload_n 2, 1) := by decide +kernel
theorem dX6_shareOf_41 : decode cX6_shareOf 41 = .ok (.invokestatic 141, 3) := by decide +kernel
theorem dX6_shareOf_44 : decode cX6_shareOf 44 = .ok (.iload_n 1, 1) := by decide +kernel
theorem dX6_shareOf_45 : decode cX6_shareOf 45 = .ok (.if_icmp .ne 17, 3) := by decide +kernel
theorem dX6_shareOf_48 : decode cX6_shareOf 48 = .ok (.aload_n 0, 1) := by decide +kernel
theorem dX6_shareOf_49 : decode cX6_shareOf 49 = .ok (.getfield 25, 3) := by decide +kernel
theorem dX6_shareOf_52 : decode cX6_shareOf 52 = .ok (.iconst 4, 1) := by decide +kernel
theorem dX6_shareOf_53 : decode cX6_shareOf 53 = .ok (.iload 4, 2) := by decide +kernel
theorem dX6_shareOf_55 : decode cX6_shareOf 55 = .ok (.imul, 1) := by decide +kernel
theorem dX6_shareOf_56 : decode cX6_shareOf 56 = .ok (.iconst 2, 1) := by decide +kernel
theorem dX6_shareOf_57 : decode cX6_shareOf 57 = .ok (.iadd, 1) := by decide +kernel
theorem dX6_shareOf_58 : decode cX6_shareOf 58 = .ok (.iaload, 1) := by decide +kernel
theorem dX6_shareOf_59 : decode cX6_shareOf 59 = .ok (.goto 4, 3) := by decide +kernel
theorem dX6_shareOf_62 : decode cX6_shareOf 62 = .ok (.iconst 0, 1) := by decide +kernel
theorem dX6_shareOf_63 : decode cX6_shareOf 63 = .ok (.iadd, 1) := by decide +kernel
theorem dX6_shareOf_64 : decode cX6_shareOf 64 = .ok (.istore_n 3, 1) := by decide +kernel
theorem dX6_shareOf_65 : decode cX6_shareOf 65 = .ok (.iinc 4 1, 3) := by decide +kernel
theorem dX6_shareOf_68 : decode cX6_shareOf 68 = .ok (.goto (-63), 3) := by decide +kernel
theorem dX6_shareOf_71 : decode cX6_shareOf 71 = .ok (.iload_n 3, 1) := by decide +kernel
theorem dX6_shareOf_72 : decode cX6_shareOf 72 = .ok (.ireturn, 1) := by decide +kernel
set_option maxRecDepth 20000 in
theorem ggX6_share_X6_isCell : GoodIn wsX6_share wsX6_isCell := goodIn_r _ [5, 6, 7, 8, 4, 9] (by decide +kernel) (by decide +kernel)
set_option maxRecDepth 20000 in
theorem gX6_share_X6_isCell : GoodIn wsX6_share (va_wsS RX6 117 yX6_isCell wsX6_isCell) := goodIn_app (goodIn_of _ (by decide +kernel)) ggX6_share_X6_isCell
set_option maxRecDepth 20000 in
theorem ggX6_share_X6_lacks : GoodIn wsX6_share wsX6_lacks := goodIn_r _ [13, 14, 27, 28, 29, 30, 31, 32, 33, 34, 35, 36, 37, 38, 39, 40, 41, 42, 43, 44, 45, 46, 47, 48, 49, 50, 51, 52, 53, 54, 55, 56, 57, 58] (by decide +kernel) (by decide +kernel)
set_option maxRecDepth 20000 in
theorem gX6_share_X6_lacks : GoodIn wsX6_share (wsV RX6 122 RX6 yX6_lacks wsX6_lacks) := goodIn_app (goodIn_of _ (by decide +kernel)) ggX6_share_X6_lacks
set_option maxRecDepth 20000 in
theorem ggX6_share_X6_shareOf : GoodIn wsX6_share wsX6_shareOf := goodIn_r _ [18, 19, 20, 21, 22, 4, 23, 24, 25, 26, 27, 28, 29, 30, 31, 32, 33, 34, 35, 36, 37, 38, 39, 40, 41, 42, 43, 44, 45, 46, 47, 48, 49, 50, 51, 52, 53, 54, 55, 56, 57, 58] (by decide +kernel) (by decide +kernel)
set_option maxRecDepth 20000 in
theorem gX6_share_X6_shareOf : GoodIn wsX6_share (wsV RX6 152 RX6 yX6_shareOf wsX6_shareOf) := goodIn_app (goodIn_of _ (by decide +kernel)) ggX6_share_X6_shareOf
theorem dX6_share_0 : decode cX6_share 0 = .ok (.iload_n 1, 1) := by decide +kernel
theorem dX6_share_1 : decode cX6_share 1 = .ok (.invokestatic 117, 3) := by decide +kernel
theorem dX6_share_4 : decode cX6_share 4 = .ok (.ifCond .eq 26, 3) := by decide +kernel
theorem dX6_share_7 : decode cX6_share 7 = .ok (.aload_n 0, 1) := by decide +kernel
theorem dX6_share_8 : decode cX6_share 8 = .ok (.invokevirtual 122, 3) := by decide +kernel
theorem dX6_share_11 : decode cX6_share 11 = .ok (.ifCond .ne 19, 3) := by decide +kernel
theorem dX6_share_14 : decode cX6_share 14 = .ok (.aload_n 0, 1) := by decide +kernel
theorem dX6_share_15 : decode cX6_share 15 = .ok (.getfield 85, 3) := by decide +kernel
theorem dX6_share_18 : decode cX6_share 18 = .ok (.iload_n 1, 1) := by decide +kernel
theorem dX6_share_19 : decode cX6_share 19 = .ok (.ishr, 1) := by decide +kernel
theorem dX6_share_20 : decode cX6_share 20 = .ok (.iconst 1, 1) := by decide +kernel
theorem dX6_share_21 : decode cX6_share 21 = .ok (.iand, 1) := by decide +kernel
theorem dX6_share_22 : decode cX6_share 22 = .ok (.iconst 1, 1) := by decide +kernel
theorem dX6_share_23 : decode cX6_share 23 = .ok (.if_icmp .ne 7, 3) := by decide +kernel
theorem dX6_share_26 : decode cX6_share 26 = .ok (.iconst 1, 1) := by decide +kernel
theorem dX6_share_27 : decode cX6_share 27 = .ok (.goto 4, 3) := by decide +kernel
theorem dX6_share_30 : decode cX6_share 30 = .ok (.iconst 0, 1) := by decide +kernel
theorem dX6_share_31 : decode cX6_share 31 = .ok (.istore_n 2, 1) := by decide +kernel
theorem dX6_share_32 : decode cX6_share 32 = .ok (.iload_n 2, 1) := by decide +kernel
theorem dX6_share_33 : decode cX6_share 33 = .ok (.ifCond .eq 15, 3) := by decide +kernel
theorem dX6_share_36 : decode cX6_share 36 = .ok (.aload_n 0, 1) := by decide +kernel
theorem dX6_share_37 : decode cX6_share 37 = .ok (.iload_n 1, 1) := by decide +kernel
theorem dX6_share_38 : decode cX6_share 38 = .ok (.aload_n 0, 1) := by decide +kernel
theorem dX6_share_39 : decode cX6_share 39 = .ok (.getfield 85, 3) := by decide +kernel
theorem dX6_share_42 : decode cX6_share 42 = .ok (.invokevirtual 152, 3) := by decide +kernel
theorem dX6_share_45 : decode cX6_share 45 = .ok (.goto 5, 3) := by decide +kernel
theorem dX6_share_48 : decode cX6_share 48 = .ok (.bipush (-101), 2) := by decide +kernel
theorem dX6_share_50 : decode cX6_share 50 = .ok (.ireturn, 1) := by decide +kernel
set_option maxRecDepth 20000 in
theorem ggX6_layLies_X6_drifts : GoodIn wsX6_layLies wsX6_drifts := goodIn_r _ [9, 10, 11, 12, 13, 8, 14, 15, 16, 17, 18, 19, 20, 21, 22, 23, 24, 25, 26, 27, 28, 29, 30, 31, 32, 33, 34, 35, 36, 37, 38, 39, 40, 41, 42, 43, 44, 45, 46, 47, 48, 49, 50, 51, 52, 53, 54, 55, 56, 57] (by decide +kernel) (by decide +kernel)
set_option maxRecDepth 20000 in
theorem gX6_layLies_X6_drifts : GoodIn wsX6_layLies (wsV RX6 130 RX6 yX6_drifts wsX6_drifts) := goodIn_app (goodIn_of _ (by decide +kernel)) ggX6_layLies_X6_drifts
theorem dX6_layLies_0 : decode cX6_layLies 0 = .ok (.iconst 0, 1) := by decide +kernel
theorem dX6_layLies_1 : decode cX6_layLies 1 = .ok (.istore_n 2, 1) := by decide +kernel
theorem dX6_layLies_2 : decode cX6_layLies 2 = .ok (.iload_n 2, 1) := by decide +kernel
theorem dX6_layLies_3 : decode cX6_layLies 3 = .ok (.aload_n 0, 1) := by decide +kernel
theorem dX6_layLies_4 : decode cX6_layLies 4 = .ok (.getfield 91, 3) := by decide +kernel
theorem dX6_layLies_7 : decode cX6_layLies 7 = .ok (.if_icmp .ge 80, 3) := by decide +kernel
theorem dX6_layLies_10 : decode cX6_layLies 10 = .ok (.aload_n 0, 1) := by decide +kernel
theorem dX6_layLies_11 : decode cX6_layLies 11 = .ok (.getfield 28, 3) := by decide +kernel
theorem dX6_layLies_14 : decode cX6_layLies 14 = .ok (.iload_n 2, 1) := by decide +kernel
theorem dX6_layLies_15 : decode cX6_layLies 15 = .ok (.aload_n 0, 1) := by decide +kernel
theorem dX6_layLies_16 : decode cX6_layLies 16 = .ok (.getfield 25, 3) := by decide +kernel
theorem dX6_layLies_19 : decode cX6_layLies 19 = .ok (.iconst 4, 1) := by decide +kernel
theorem dX6_layLies_20 : decode cX6_layLies 20 = .ok (.iload_n 2, 1) := by decide +kernel
theorem dX6_layLies_21 : decode cX6_layLies 21 = .ok (.imul, 1) := by decide +kernel
theorem dX6_layLies_22 : decode cX6_layLies 22 = .ok (.iconst 1, 1) := by decide +kernel
theorem dX6_layLies_23 : decode cX6_layLies 23 = .ok (.iadd, 1) := by decide +kernel
theorem dX6_layLies_24 : decode cX6_layLies 24 = .ok (.iaload, 1) := by decide +kernel
theorem dX6_layLies_25 : decode cX6_layLies 25 = .ok (.iastore, 1) := by decide +kernel
theorem dX6_layLies_26 : decode cX6_layLies 26 = .ok (.iconst 0, 1) := by decide +kernel
theorem dX6_layLies_27 : decode cX6_layLies 27 = .ok (.istore_n 3, 1) := by decide +kernel
theorem dX6_layLies_28 : decode cX6_layLies 28 = .ok (.iload_n 3, 1) := by decide +kernel
theorem dX6_layLies_29 : decode cX6_layLies 29 = .ok (.iload_n 1, 1) := by decide +kernel
theorem dX6_layLies_30 : decode cX6_layLies 30 = .ok (.if_icmp .ge 51, 3) := by decide +kernel
theorem dX6_layLies_33 : decode cX6_layLies 33 = .ok (.aload_n 0, 1) := by decide +kernel
theorem dX6_layLies_34 : decode cX6_layLies 34 = .ok (.getfield 28, 3) := by decide +kernel
theorem dX6_layLies_37 : decode cX6_layLies 37 = .ok (.bipush 8, 2) := by decide +kernel
theorem dX6_layLies_39 : decode cX6_layLies 39 = .ok (.iload_n 3, 1) := by decide +kernel
theorem dX6_layLies_40 : decode cX6_layLies 40 = .ok (.iconst 1, 1) := by decide +kernel
theorem dX6_layLies_41 : decode cX6_layLies 41 = .ok (.iadd, 1) := by decide +kernel
theorem dX6_layLies_42 : decode cX6_layLies 42 = .ok (.imul, 1) := by decide +kernel
theorem dX6_layLies_43 : decode cX6_layLies 43 = .ok (.iload_n 2, 1) := by decide +kernel
theorem dX6_layLies_44 : decode cX6_layLies 44 = .ok (.iadd, 1) := by decide +kernel
theorem dX6_layLies_45 : decode cX6_layLies 45 = .ok (.aload_n 0, 1) := by decide +kernel
theorem dX6_layLies_46 : decode cX6_layLies 46 = .ok (.aload_n 0, 1) := by decide +kernel
theorem dX6_layLies_47 : decode cX6_layLies 47 = .ok (.getfield 25, 3) := by decide +kernel
theorem dX6_layLies_50 : decode cX6_layLies 50 = .ok (.iconst 4, 1) := by decide +kernel
theorem dX6_layLies_51 : decode cX6_layLies 51 = .ok (.iload_n 2, 1) := by decide +kernel
theorem dX6_layLies_52 : decode cX6_layLies 52 = .ok (.imul, 1) := by decide +kernel
theorem dX6_layLies_53 : decode cX6_layLies 53 = .ok (.iaload, 1) := by decide +kernel
theorem dX6_layLies_54 : decode cX6_layLies 54 = .ok (.aload_n 0, 1) := by decide +kernel
theorem dX6_layLies_55 : decode cX6_layLies 55 = .ok (.getfield 28, 3) := by decide +kernel
theorem dX6_layLies_58 : decode cX6_layLies 58 = .ok (.bipush 8, 2) := by decide +kernel
theorem dX6_layLies_60 : decode cX6_layLies 60 = .ok (.iload_n 3, 1) := by decide +kernel
theorem dX6_layLies_61 : decode cX6_layLies 61 = .ok (.imul, 1) := by decide +kernel
theorem dX6_layLies_62 : decode cX6_layLies 62 = .ok (.iload_n 2, 1) := by decide +kernel
theorem dX6_layLies_63 : decode cX6_layLies 63 = .ok (.iadd, 1) := by decide +kernel
theorem dX6_layLies_64 : decode cX6_layLies 64 = .ok (.iaload, 1) := by decide +kernel
theorem dX6_layLies_65 : decode cX6_layLies 65 = .ok (.aload_n 0, 1) := by decide +kernel
theorem dX6_layLies_66 : decode cX6_layLies 66 = .ok (.getfield 88, 3) := by decide +kernel
theorem dX6_layLies_69 : decode cX6_layLies 69 = .ok (.iload_n 3, 1) := by decide +kernel
theorem dX6_layLies_70 : decode cX6_layLies 70 = .ok (.iadd, 1) := by decide +kernel
theorem dX6_layLies_71 : decode cX6_layLies 71 = .ok (.invokevirtual 130, 3) := by decide +kernel
theorem dX6_layLies_74 : decode cX6_layLies 74 = .ok (.iastore, 1) := by decide +kernel
theorem dX6_layLies_75 : decode cX6_layLies 75 = .ok (.iinc 3 1, 3) := by decide +kernel
theorem dX6_layLies_78 : decode cX6_layLies 78 = .ok (.goto (-50), 3) := by decide +kernel
theorem dX6_layLies_81 : decode cX6_layLies 81 = .ok (.iinc 2 1, 3) := by decide +kernel
theorem dX6_layLies_84 : decode cX6_layLies 84 = .ok (.goto (-82), 3) := by decide +kernel
theorem dX6_layLies_87 : decode cX6_layLies 87 = .ok (.return_, 1) := by decide +kernel
set_option maxRecDepth 20000 in
theorem ggX6_worthOf_X6_isDry : GoodIn wsX6_worthOf wsX6_isDry := goodIn_r _ [11, 12, 13, 14, 10, 15, 16, 17, 18, 19, 20, 21, 22, 30, 31, 32, 33, 34, 35, 36, 37, 38, 39, 40, 41, 42, 43, 44, 45, 46, 47, 48, 49, 50, 51, 52, 53, 54, 55, 56, 57, 58, 59, 60, 61] (by decide +kernel) (by decide +kernel)
set_option maxRecDepth 20000 in
theorem gX6_worthOf_X6_isDry : GoodIn wsX6_worthOf (wsV RX6 110 RX6 yX6_isDry wsX6_isDry) := goodIn_app (goodIn_of _ (by decide +kernel)) ggX6_worthOf_X6_isDry
set_option maxRecDepth 20000 in
theorem ggX6_worthOf_X6_isCell : GoodIn wsX6_worthOf wsX6_isCell := goodIn_r _ [25, 26, 27, 28, 10, 29] (by decide +kernel) (by decide +kernel)
set_option maxRecDepth 20000 in
theorem gX6_worthOf_X6_isCell : GoodIn wsX6_worthOf (va_wsS RX6 117 yX6_isCell wsX6_isCell) := goodIn_app (goodIn_of _ (by decide +kernel)) ggX6_worthOf_X6_isCell
theorem dX6_worthOf_0 : decode cX6_worthOf 0 = .ok (.iload_n 1, 1) := by decide +kernel
theorem dX6_worthOf_1 : decode cX6_worthOf 1 = .ok (.istore 4, 2) := by decide +kernel
theorem dX6_worthOf_3 : decode cX6_worthOf 3 = .ok (.iconst 1, 1) := by decide +kernel
theorem dX6_worthOf_4 : decode cX6_worthOf 4 = .ok (.istore 5, 2) := by decide +kernel
theorem dX6_worthOf_6 : decode cX6_worthOf 6 = .ok (.iconst 1, 1) := by decide +kernel
theorem dX6_worthOf_7 : decode cX6_worthOf 7 = .ok (.istore 6, 2) := by decide +kernel
theorem dX6_worthOf_9 : decode cX6_worthOf 9 = .ok (.iload 6, 2) := by decide +kernel
theorem dX6_worthOf_11 : decode cX6_worthOf 11 = .ok (.iload_n 2, 1) := by decide +kernel
theorem dX6_worthOf_12 : decode cX6_worthOf 12 = .ok (.if_icmp .ge 15, 3) := by decide +kernel
theorem dX6_worthOf_15 : decode cX6_worthOf 15 = .ok (.iload 5, 2) := by decide +kernel
theorem dX6_worthOf_17 : decode cX6_worthOf 17 = .ok (.iconst 3, 1) := by decide +kernel
theorem dX6_worthOf_18 : decode cX6_worthOf 18 = .ok (.imul, 1) := by decide +kernel
theorem dX6_worthOf_19 : decode cX6_worthOf 19 = .ok (.istore 5, 2) := by decide +kernel
theorem dX6_worthOf_21 : decode cX6_worthOf 21 = .ok (.iinc 6 1, 3) := by decide +kernel
theorem dX6_worthOf_24 : decode cX6_worthOf 24 = .ok (.goto (-15), 3) := by decide +kernel
theorem dX6_worthOf_27 : decode cX6_worthOf 27 = .ok (.iconst 0, 1) := by decide +kernel
theorem dX6_worthOf_28 : decode cX6_worthOf 28 = .ok (.istore 6, 2) := by decide +kernel
theorem dX6_worthOf_30 : decode cX6_worthOf 30 = .ok (.iconst 0, 1) := by decide +kernel
theorem dX6_worthOf_31 : decode cX6_worthOf 31 = .ok (.istore 7, 2) := by decide +kernel
theorem dX6_worthOf_33 : decode cX6_worthOf 33 = .ok (.aload_n 0, 1) := by decide +kernel
theorem dX6_worthOf_34 : decode cX6_worthOf 34 = .ok (.iload 4, 2) := by decide +kernel
theorem dX6_worthOf_36 : decode cX6_worthOf 36 = .ok (.aload_n 0, 1) := by decide +kernel
theorem dX6_worthOf_37 : decode cX6_worthOf 37 = .ok (.getfield 88, 3) := by decide +kernel
theorem dX6_worthOf_40 : decode cX6_worthOf 40 = .ok (.aload_n 0, 1) := by decide +kernel
theorem dX6_worthOf_41 : decode cX6_worthOf 41 = .ok (.getfield 47, 3) := by decide +kernel
theorem dX6_worthOf_44 : decode cX6_worthOf 44 = .ok (.invokevirtual 110, 3) := by decide +kernel
theorem dX6_worthOf_47 : decode cX6_worthOf 47 = .ok (.istore 8, 2) := by decide +kernel
theorem dX6_worthOf_49 : decode cX6_worthOf 49 = .ok (.iconst 0, 1) := by decide +kernel
theorem dX6_worthOf_50 : decode cX6_worthOf 50 = .ok (.istore 9, 2) := by decide +kernel
theorem dX6_worthOf_52 : decode cX6_worthOf 52 = .ok (.iload 9, 2) := by decide +kernel
theorem dX6_worthOf_54 : decode cX6_worthOf 54 = .ok (.iload_n 2, 1) := by decide +kernel
theorem dX6_worthOf_55 : decode cX6_worthOf 55 = .ok (.if_icmp .gt 162, 3) := by decide +kernel
theorem dX6_worthOf_58 : decode cX6_worthOf 58 = .ok (.iload 8, 2) := by decide +kernel
theorem dX6_worthOf_60 : decode cX6_worthOf 60 = .ok (.ifCond .eq 157, 3) := by decide +kernel
theorem dX6_worthOf_63 : decode cX6_worthOf 63 = .ok (.iload 9, 2) := by decide +kernel
theorem dX6_worthOf_65 : decode cX6_worthOf 65 = .ok (.ifCond .le 70, 3) := by decide +kernel
theorem dX6_worthOf_68 : decode cX6_worthOf 68 = .ok (.iload 4, 2) := by decide +kernel
theorem dX6_worthOf_70 : decode cX6_worthOf 70 = .ok (.iload_n 3, 1) := by decide +kernel
theorem dX6_worthOf_71 : decode cX6_worthOf 71 = .ok (.iload 5, 2) := by decide +kernel
theorem dX6_worthOf_73 : decode cX6_worthOf 73 = .ok (.idiv, 1) := by decide +kernel
theorem dX6_worthOf_74 : decode cX6_worthOf 74 = .ok (.iconst 3, 1) := by decide +kernel
theorem dX6_worthOf_75 : decode cX6_worthOf 75 = .ok (.irem, 1) := by decide +kernel
theorem dX6_worthOf_76 : decode cX6_worthOf 76 = .ok (.iconst 1, 1) := by decide +kernel
theorem dX6_worthOf_77 : decode cX6_worthOf 77 = .ok (.isub, 1) := by decide +kernel
theorem dX6_worthOf_78 : decode cX6_worthOf 78 = .ok (.iadd, 1) := by decide +kernel
theorem dX6_worthOf_79 : decode cX6_worthOf 79 = .ok (.istore 4, 2) := by decide +kernel
theorem dX6_worthOf_81 : decode cX6_worthOf 81 = .ok (.iload 5, 2) := by decide +kernel
theorem dX6_worthOf_83 : decode cX6_worthOf 83 = .ok (.iconst 3, 1) := by decide +kernel
theorem dX6_worthOf_84 : decode cX6_worthOf 84 = .ok (.idiv, 1) := by decide +kernel
theorem dX6_worthOf_85 : decode cX6_worthOf 85 = .ok (.istore 5, 2) := by decide +kernel
theorem dX6_worthOf_87 : decode cX6_worthOf 87 = .ok (.iload 5, 2) := by decide +kernel
theorem dX6_worthOf_89 : decode cX6_worthOf 89 = .ok (.ifCond .ne 7, 3) := by decide +kernel
theorem dX6_worthOf_92 : decode cX6_worthOf 92 = .ok (.iconst 1, 1) := by decide +kernel
theorem dX6_worthOf_93 : decode cX6_worthOf 93 = .ok (.goto 5, 3) := by decide +kernel
theorem dX6_worthOf_96 : decode cX6_worthOf 96 = .ok (.iload 5, 2) := by decide +kernel
theorem dX6_worthOf_98 : decode cX6_worthOf 98 = .ok (.istore 5, 2) := by decide +kernel
theorem dX6_worthOf_100 : decode cX6_worthOf 100 = .ok (.iload 4, 2) := by decide +kernel
theorem dX6_worthOf_102 : decode cX6_worthOf 102 = .ok (.invokestatic 117, 3) := by decide +kernel
theorem dX6_worthOf_105 : decode cX6_worthOf 105 = .ok (.ifCond .eq 27, 3) := by decide +kernel
theorem dX6_worthOf_108 : decode cX6_worthOf 108 = .ok (.aload_n 0, 1) := by decide +kernel
theorem dX6_worthOf_109 : decode cX6_worthOf 109 = .ok (.iload 4, 2) := by decide +kernel
theorem dX6_worthOf_111 : decode cX6_worthOf 111 = .ok (.aload_n 0, 1) := by decide +kernel
theorem dX6_worthOf_112 : decode cX6_worthOf 112 = .ok (.getfield 88, 3) := by decide +kernel
theorem dX6_worthOf_115 : decode cX6_worthOf 115 = .ok (.iload 9, 2) := by decide +kernel
theorem dX6_worthOf_117 : decode cX6_worthOf 117 = .ok (.iadd, 1) := by decide +kernel
theorem dX6_worthOf_118 : decode cX6_worthOf 118 = .ok (.aload_n 0, 1) := by decide +kernel
theorem dX6_worthOf_119 : decode cX6_worthOf 119 = .ok (.getfield 47, 3) := by decide +kernel
theorem dX6_worthOf_122 : decode cX6_worthOf 122 = .ok (.invokevirtual 110, 3) := by decide +kernel
theorem dX6_worthOf_125 : decode cX6_worthOf 125 = .ok (.ifCond .eq 7, 3) := by decide +kernel
theorem dX6_worthOf_128 : decode cX6_worthOf 128 = .ok (.iconst 1, 1) := by decide +kernel
theorem dX6_worthOf_129 : decode cX6_worthOf 129 = .ok (.goto 4, 3) := by decide +kernel
theorem dX6_worthOf_132 : decode cX6_worthOf 132 = .ok (.iconst 0, 1) := by decide +kernel
theorem dX6_worthOf_133 : decode cX6_worthOf 133 = .ok (.istore 8, 2) := by decide +kernel
theorem dX6_worthOf_135 : decode cX6_worthOf 135 = .ok (.iconst 0, 1) := by decide +kernel
theorem dX6_worthOf_136 : decode cX6_worthOf 136 = .ok (.istore 10, 2) := by decide +kernel
theorem dX6_worthOf_138 : decode cX6_worthOf 138 = .ok (.iload 10, 2) := by decide +kernel
theorem dX6_worthOf_140 : decode cX6_worthOf 140 = .ok (.aload_n 0, 1) := by decide +kernel
theorem dX6_worthOf_141 : decode cX6_worthOf 141 = .ok (.getfield 91, 3) := by decide +kernel
theorem dX6_worthOf_144 : decode cX6_worthOf 144 = .ok (.if_icmp .ge 67, 3) := by decide +kernel
theorem dX6_worthOf_147 : decode cX6_worthOf 147 = .ok (.iload 8, 2) := by decide +kernel
theorem dX6_worthOf_149 : decode cX6_worthOf 149 = .ok (.ifCond .eq 62, 3) := by decide +kernel
theorem dX6_worthOf_152 : decode cX6_worthOf 152 = .ok (.aload_n 0, 1) := by decide +kernel
theorem dX6_worthOf_153 : decode cX6_worthOf 153 = .ok (.getfield 28, 3) := by decide +kernel
theorem dX6_worthOf_156 : decode cX6_worthOf 156 = .ok (.bipush 8, 2) := by decide +kernel
theorem dX6_worthOf_158 : decode cX6_worthOf 158 = .ok (.iload 9, 2) := by decide +kernel
theorem dX6_worthOf_160 : decode cX6_worthOf 160 = .ok (.imul, 1) := by decide +kernel
theorem dX6_worthOf_161 : decode cX6_worthOf 161 = .ok (.iload 10, 2) := by decide +kernel
theorem dX6_worthOf_163 : decode cX6_worthOf 163 = .ok (.iadd, 1) := by decide +kernel
theorem dX6_worthOf_164 : decode cX6_worthOf 164 = .ok (.iaload, 1) := by decide +kernel
theorem dX6_worthOf_165 : decode cX6_worthOf 165 = .ok (.iload 4, 2) := by decide +kernel
theorem dX6_worthOf_167 : decode cX6_worthOf 167 = .ok (.if_icmp .ne 38, 3) := by decide +kernel
theorem dX6_worthOf_170 : decode cX6_worthOf 170 = .ok (.iload 6, 2) := by decide +kernel
theorem dX6_worthOf_172 : decode cX6_worthOf 172 = .ok (.iload 10, 2) := by decide +kernel
theorem dX6_worthOf_174 : decode cX6_worthOf 174 = .ok (.ishr, 1) := by decide +kernel
theorem dX6_worthOf_175 : decode cX6_worthOf 175 = .ok (.iconst 1, 1) := by decide +kernel
theorem dX6_worthOf_176 : decode cX6_worthOf 176 = .ok (.iand, 1) := by decide +kernel
theorem dX6_worthOf_177 : decode cX6_worthOf 177 = .ok (.ifCond .ne 28, 3) := by decide +kernel
theorem dX6_worthOf_180 : decode cX6_worthOf 180 = .ok (.iload 6, 2) := by decide +kernel
theorem dX6_worthOf_182 : decode cX6_worthOf 182 = .ok (.iconst 1, 1) := by decide +kernel
theorem dX6_worthOf_183 : decode cX6_worthOf 183 = .ok (.iload 10, 2) := by decide +kernel
theorem dX6_worthOf_185 : decode cX6_worthOf 185 = .ok (.ishl, 1) := by decide +kernel
theorem dX6_worthOf_186 : decode cX6_worthOf 186 = .ok (.ior, 1) := by decide +kernel
theorem dX6_worthOf_187 : decode cX6_worthOf 187 = .ok (.istore 6, 2) := by decide +kernel
theorem dX6_worthOf_189 : decode cX6_worthOf 189 = .ok (.iload 7, 2) := by decide +kernel
theorem dX6_worthOf_191 : decode cX6_worthOf 191 = .ok (.aload_n 0, 1) := by decide +kernel
theorem dX6_worthOf_192 : decode cX6_worthOf 192 = .ok (.getfield 25, 3) := by decide +kernel
theorem dX6_worthOf_195 : decode cX6_worthOf 195 = .ok (.iconst 4, 1) := by decide +kernel
theorem dX6_worthOf_196 : decode cX6_worthOf 196 = .ok (.iload 10, 2) := by decide +kernel
theorem dX6_worthOf_198 : decode cX6_worthOf 198 = .ok (.imul, 1) := by decide +kernel
theorem dX6_worthOf_199 : decode cX6_worthOf 199 = .ok (.iconst 2, 1) := by decide +kernel
theorem dX6_worthOf_200 : decode cX6_worthOf 200 = .ok (.iadd, 1) := by decide +kernel
theorem dX6_worthOf_201 : decode cX6_worthOf 201 = .ok (.iaload, 1) := by decide +kernel
theorem dX6_worthOf_202 : decode cX6_worthOf 202 = .ok (.iadd, 1) := by decide +kernel
theorem dX6_worthOf_203 : decode cX6_worthOf 203 = .ok (.istore 7, 2) := by decide +kernel
theorem dX6_worthOf_205 : decode cX6_worthOf 205 = .ok (.iinc 10 1, 3) := by decide +kernel
theorem dX6_worthOf_208 : decode cX6_worthOf 208 = .ok (.goto (-70), 3) := by decide +kernel
theorem dX6_worthOf_211 : decode cX6_worthOf 211 = .ok (.iinc 9 1, 3) := by decide +kernel
theorem dX6_worthOf_214 : decode cX6_worthOf 214 = .ok (.goto (-162), 3) := by decide +kernel
theorem dX6_worthOf_217 : decode cX6_worthOf 217 = .ok (.iload 8, 2) := by decide +kernel
theorem dX6_worthOf_219 : decode cX6_worthOf 219 = .ok (.ifCond .eq 33, 3) := by decide +kernel
theorem dX6_worthOf_222 : decode cX6_worthOf 222 = .ok (.aload_n 0, 1) := by decide +kernel
theorem dX6_worthOf_223 : decode cX6_worthOf 223 = .ok (.getfield 85, 3) := by decide +kernel
theorem dX6_worthOf_226 : decode cX6_worthOf 226 = .ok (.iload_n 1, 1) := by decide +kernel
theorem dX6_worthOf_227 : decode cX6_worthOf 227 = .ok (.ishr, 1) := by decide +kernel
theorem dX6_worthOf_228 : decode cX6_worthOf 228 = .ok (.iconst 1, 1) := by decide +kernel
theorem dX6_worthOf_229 : decode cX6_worthOf 229 = .ok (.iand, 1) := by decide +kernel
theorem dX6_worthOf_230 : decode cX6_worthOf 230 = .ok (.iconst 1, 1) := by decide +kernel
theorem dX6_worthOf_231 : decode cX6_worthOf 231 = .ok (.if_icmp .ne 21, 3) := by decide +kernel
theorem dX6_worthOf_234 : decode cX6_worthOf 234 = .ok (.aload_n 0, 1) := by decide +kernel
theorem dX6_worthOf_235 : decode cX6_worthOf 235 = .ok (.getfield 85, 3) := by decide +kernel
theorem dX6_worthOf_238 : decode cX6_worthOf 238 = .ok (.iload 4, 2) := by decide +kernel
theorem dX6_worthOf_240 : decode cX6_worthOf 240 = .ok (.ishr, 1) := by decide +kernel
theorem dX6_worthOf_241 : decode cX6_worthOf 241 = .ok (.iconst 1, 1) := by decide +kernel
theorem dX6_worthOf_242 : decode cX6_worthOf 242 = .ok (.iand, 1) := by decide +kernel
theorem dX6_worthOf_243 : decode cX6_worthOf 243 = .ok (.iconst 1, 1) := by decide +kernel
theorem dX6_worthOf_244 : decode cX6_worthOf 244 = .ok (.if_icmp .ne 8, 3) := by decide +kernel
theorem dX6_worthOf_247 : decode cX6_worthOf 247 = .ok (.iload 7, 2) := by decide +kernel
theorem dX6_worthOf_249 : decode cX6_worthOf 249 = .ok (.goto 4, 3) := by decide +kernel
theorem dX6_worthOf_252 : decode cX6_worthOf 252 = .ok (.iconst (-1), 1) := by decide +kernel
theorem dX6_worthOf_253 : decode cX6_worthOf 253 = .ok (.ireturn, 1) := by decide +kernel
set_option maxRecDepth 20000 in
theorem ggX6_best_X6_isCell : GoodIn wsX6_best wsX6_isCell := goodIn_r _ [6, 1, 7, 8, 5, 9] (by decide +kernel) (by decide +kernel)
set_option maxRecDepth 20000 in
theorem gX6_best_X6_isCell : GoodIn wsX6_best (va_wsS RX6 117 yX6_isCell wsX6_isCell) := goodIn_app (goodIn_of _ (by decide +kernel)) ggX6_best_X6_isCell
set_option maxRecDepth 20000 in
theorem ggX6_best_X6_in : GoodIn wsX6_best wsX6_in := goodIn_r _ [9] (by decide +kernel) (by decide +kernel)
set_option maxRecDepth 20000 in
theorem gX6_best_X6_in : GoodIn wsX6_best (va_wsS RX6 70 yX6_in wsX6_in) := goodIn_app (goodIn_of _ (by decide +kernel)) ggX6_best_X6_in
set_option maxRecDepth 20000 in
theorem ggX6_best_X6_lacks : GoodIn wsX6_best wsX6_lacks := goodIn_r _ [13, 14, 47, 48, 49, 50, 51, 52, 53, 54, 55, 56, 57, 58, 59, 60, 61, 62, 63, 64, 65, 66, 67, 68, 69, 70, 71, 72, 73, 74, 75, 76, 77, 78] (by decide +kernel) (by decide +kernel)
set_option maxRecDepth 20000 in
theorem gX6_best_X6_lacks : GoodIn wsX6_best (wsV RX6 122 RX6 yX6_lacks wsX6_lacks) := goodIn_app (goodIn_of _ (by decide +kernel)) ggX6_best_X6_lacks
set_option maxRecDepth 20000 in
theorem ggX6_best_X6_layLies : GoodIn wsX6_best wsX6_layLies := goodIn_r _ [18, 19, 20, 21, 22, 23, 24, 25, 5, 26, 27, 28, 29, 30, 31, 32, 33, 34, 35, 36, 14, 37, 38, 39, 40, 41, 47, 48, 49, 50, 51, 52, 53, 54, 55, 56, 57, 58, 59, 60, 61, 62, 63, 64, 65, 66, 67, 68, 69, 70, 71, 72, 73, 74, 75, 76, 77, 78] (by decide +kernel) (by decide +kernel)
set_option maxRecDepth 20000 in
theorem gX6_best_X6_layLies : GoodIn wsX6_best (wsV RX6 158 RX6 yX6_layLies wsX6_layLies) := goodIn_app (goodIn_of _ (by decide +kernel)) ggX6_best_X6_layLies
set_option maxRecDepth 20000 in
theorem ggX6_best_X6_worthOf : GoodIn wsX6_best wsX6_worthOf := goodIn_r _ [45, 22, 27, 19, 20, 21, 46, 28, 29, 30, 5, 31, 32, 33, 34, 35, 36, 14, 37, 38, 39, 40, 41, 3, 4, 6, 1, 7, 8, 9, 47, 48, 49, 50, 51, 52, 53, 54, 55, 56, 57, 58, 59, 60, 61, 62, 63, 64, 65, 66, 67, 68, 69, 70, 71, 72, 73, 74, 75, 76, 77, 78] (by decide +kernel) (by decide +kernel)
set_option maxRecDepth 20000 in
theorem gX6_best_X6_worthOf : GoodIn wsX6_best (wsV RX6 162 RX6 yX6_worthOf wsX6_worthOf) := goodIn_app (goodIn_of _ (by decide +kernel)) ggX6_best_X6_worthOf
theorem dX6_best_0 : decode cX6_best 0 = .ok (.iload_n 1, 1) := by decide +kernel
theorem dX6_best_1 : decode cX6_best 1 = .ok (.invokestatic 117, 3) := by decide +kernel
theorem dX6_best_4 : decode cX6_best 4 = .ok (.ifCond .ne 6, 3) := by decide +kernel
theorem dX6_best_7 : decode cX6_best 7 = .ok (.bipush (-101), 2) := by decide +kernel
theorem dX6_best_9 : decode cX6_best 9 = .ok (.ireturn, 1) := by decide +kernel
theorem dX6_best_10 : decode cX6_best 10 = .ok (.iload_n 2, 1) := by decide +kernel
theorem dX6_best_11 : decode cX6_best 11 = .ok (.i2l, 1) := by decide +kernel
theorem dX6_best_12 : decode cX6_best 12 = .ok (.lconst 0, 1) := by decide +kernel
theorem dX6_best_13 : decode cX6_best 13 = .ok (.ldc2_w 100, 3) := by decide +kernel
theorem dX6_best_16 : decode cX6_best 16 = .ok (.invokestatic 70, 3) := by decide +kernel
theorem dX6_best_19 : decode cX6_best 19 = .ok (.ifCond .eq 13, 3) := by decide +kernel
theorem dX6_best_22 : decode cX6_best 22 = .ok (.iload_n 3, 1) := by decide +kernel
theorem dX6_best_23 : decode cX6_best 23 = .ok (.i2l, 1) := by decide +kernel
theorem dX6_best_24 : decode cX6_best 24 = .ok (.lconst 0, 1) := by decide +kernel
theorem dX6_best_25 : decode cX6_best 25 = .ok (.lconst 1, 1) := by decide +kernel
theorem dX6_best_26 : decode cX6_best 26 = .ok (.invokestatic 70, 3) := by decide +kernel
theorem dX6_best_29 : decode cX6_best 29 = .ok (.ifCond .ne 6, 3) := by decide +kernel
theorem dX6_best_32 : decode cX6_best 32 = .ok (.bipush (-102), 2) := by decide +kernel
theorem dX6_best_34 : decode cX6_best 34 = .ok (.ireturn, 1) := by decide +kernel
theorem dX6_best_35 : decode cX6_best 35 = .ok (.aload_n 0, 1) := by decide +kernel
theorem dX6_best_36 : decode cX6_best 36 = .ok (.invokevirtual 122, 3) := by decide +kernel
theorem dX6_best_39 : decode cX6_best 39 = .ok (.ifCond .ne 12, 3) := by decide +kernel
theorem dX6_best_42 : decode cX6_best 42 = .ok (.aload_n 0, 1) := by decide +kernel
theorem dX6_best_43 : decode cX6_best 43 = .ok (.getfield 155, 3) := by decide +kernel
theorem dX6_best_46 : decode cX6_best 46 = .ok (.bipush 40, 2) := by decide +kernel
theorem dX6_best_48 : decode cX6_best 48 = .ok (.if_icmp .ne 6, 3) := by decide +kernel
theorem dX6_best_51 : decode cX6_best 51 = .ok (.bipush (-103), 2) := by decide +kernel
theorem dX6_best_53 : decode cX6_best 53 = .ok (.ireturn, 1) := by decide +kernel
theorem dX6_best_54 : decode cX6_best 54 = .ok (.aload_n 0, 1) := by decide +kernel
theorem dX6_best_55 : decode cX6_best 55 = .ok (.dup, 1) := by decide +kernel
theorem dX6_best_56 : decode cX6_best 56 = .ok (.getfield 155, 3) := by decide +kernel
theorem dX6_best_59 : decode cX6_best 59 = .ok (.iconst 1, 1) := by decide +kernel
theorem dX6_best_60 : decode cX6_best 60 = .ok (.iadd, 1) := by decide +kernel
theorem dX6_best_61 : decode cX6_best 61 = .ok (.putfield 155, 3) := by decide +kernel
theorem dX6_best_64 : decode cX6_best 64 = .ok (.aload_n 0, 1) := by decide +kernel
theorem dX6_best_65 : decode cX6_best 65 = .ok (.iload_n 2, 1) := by decide +kernel
theorem dX6_best_66 : decode cX6_best 66 = .ok (.invokevirtual 158, 3) := by decide +kernel
theorem dX6_best_69 : decode cX6_best 69 = .ok (.iconst 1, 1) := by decide +kernel
theorem dX6_best_70 : decode cX6_best 70 = .ok (.istore 4, 2) := by decide +kernel
theorem dX6_best_72 : decode cX6_best 72 = .ok (.iconst 0, 1) := by decide +kernel
theorem dX6_best_73 : decode cX6_best 73 = .ok (.istore 5, 2) := by decide +kernel
theorem dX6_best_75 : decode cX6_best 75 = .ok (.iload 5, 2) := by decide +kernel
theorem dX6_best_77 : decode cX6_best 77 = .ok (.iload_n 2, 1) := by decide +kernel
theorem dX6_best_78 : decode cX6_best 78 = .ok (.if_icmp .ge 15, 3) := by decide +kernel
theorem dX6_best_81 : decode cX6_best 81 = .ok (.iload 4, 2) := by decide +kernel
theorem dX6_best_83 : decode cX6_best 83 = .ok (.iconst 3, 1) := by decide +kernel
theorem dX6_best_84 : decode cX6_best 84 = .ok (.imul, 1) := by decide +kernel
theorem dX6_best_85 : decode cX6_best 85 = .ok (.istore 4, 2) := by decide +kernel
theorem dX6_best_87 : decode cX6_best 87 = .ok (.iinc 5 1, 3) := by decide +kernel
theorem dX6_best_90 : decode cX6_best 90 = .ok (.goto (-15), 3) := by decide +kernel
theorem dX6_best_93 : decode cX6_best 93 = .ok (.iconst (-1), 1) := by decide +kernel
theorem dX6_best_94 : decode cX6_best 94 = .ok (.istore 5, 2) := by decide +kernel
theorem dX6_best_96 : decode cX6_best 96 = .ok (.iconst (-1), 1) := by decide +kernel
theorem dX6_best_97 : decode cX6_best 97 = .ok (.istore 6, 2) := by decide +kernel
theorem dX6_best_99 : decode cX6_best 99 = .ok (.iconst 0, 1) := by decide +kernel
theorem dX6_best_100 : decode cX6_best 100 = .ok (.istore 7, 2) := by decide +kernel
theorem dX6_best_102 : decode cX6_best 102 = .ok (.iload 7, 2) := by decide +kernel
theorem dX6_best_104 : decode cX6_best 104 = .ok (.iload 4, 2) := by decide +kernel
theorem dX6_best_106 : decode cX6_best 106 = .ok (.if_icmp .ge 68, 3) := by decide +kernel
theorem dX6_best_109 : decode cX6_best 109 = .ok (.aload_n 0, 1) := by decide +kernel
theorem dX6_best_110 : decode cX6_best 110 = .ok (.iload_n 1, 1) := by decide +kernel
theorem dX6_best_111 : decode cX6_best 111 = .ok (.iload_n 2, 1) := by decide +kernel
theorem dX6_best_112 : decode cX6_best 112 = .ok (.iload 7, 2) := by decide +kernel
theorem dX6_best_114 : decode cX6_best 114 = .ok (.invokevirtual 162, 3) := by decide +kernel
theorem dX6_best_117 : decode cX6_best 117 = .ok (.istore 8, 2) := by decide +kernel
theorem dX6_best_119 : decode cX6_best 119 = .ok (.iload 8, 2) := by decide +kernel
theorem dX6_best_121 : decode cX6_best 121 = .ok (.iload 5, 2) := by decide +kernel
theorem dX6_best_123 : decode cX6_best 123 = .ok (.if_icmp .le 25, 3) := by decide +kernel
theorem dX6_best_126 : decode cX6_best 126 = .ok (.iload_n 2, 1) := by decide +kernel
theorem dX6_best_127 : decode cX6_best 127 = .ok (.ifCond .ne 7, 3) := by decide +kernel
theorem dX6_best_130 : decode cX6_best 130 = .ok (.iload_n 1, 1) := by decide +kernel
theorem dX6_best_131 : decode cX6_best 131 = .ok (.goto 19, 3) := by decide +kernel
theorem dX6_best_134 : decode cX6_best 134 = .ok (.iload_n 1, 1) := by decide +kernel
theorem dX6_best_135 : decode cX6_best 135 = .ok (.iload 7, 2) := by decide +kernel
theorem dX6_best_137 : decode cX6_best 137 = .ok (.iload 4, 2) := by decide +kernel
theorem dX6_best_139 : decode cX6_best 139 = .ok (.iconst 3, 1) := by decide +kernel
theorem dX6_best_140 : decode cX6_best 140 = .ok (.idiv, 1) := by decide +kernel
theorem dX6_best_141 : decode cX6_best 141 = .ok (.idiv, 1) := by decide +kernel
theorem dX6_best_142 : decode cX6_best 142 = .ok (.iadd, 1) := by decide +kernel
theorem dX6_best_143 : decode cX6_best 143 = .ok (.iconst 1, 1) := by decide +kernel
theorem dX6_best_144 : decode cX6_best 144 = .ok (.isub, 1) := by decide +kernel
theorem dX6_best_145 : decode cX6_best 145 = .ok (.goto 5, 3) := by decide +kernel
theorem dX6_best_148 : decode cX6_best 148 = .ok (.iload 6, 2) := by decide +kernel
theorem dX6_best_150 : decode cX6_best 150 = .ok (.istore 6, 2) := by decide +kernel
theorem dX6_best_152 : decode cX6_best 152 = .ok (.iload 8, 2) := by decide +kernel
theorem dX6_best_154 : decode cX6_best 154 = .ok (.iload 5, 2) := by decide +kernel
theorem dX6_best_156 : decode cX6_best 156 = .ok (.if_icmp .le 8, 3) := by decide +kernel
theorem dX6_best_159 : decode cX6_best 159 = .ok (.iload 8, 2) := by decide +kernel
theorem dX6_best_161 : decode cX6_best 161 = .ok (.goto 5, 3) := by decide +kernel
theorem dX6_best_164 : decode cX6_best 164 = .ok (.iload 5, 2) := by decide +kernel
theorem dX6_best_166 : decode cX6_best 166 = .ok (.istore 5, 2) := by decide +kernel
theorem dX6_best_168 : decode cX6_best 168 = .ok (.iinc 7 1, 3) := by decide +kernel
theorem dX6_best_171 : decode cX6_best 171 = .ok (.goto (-69), 3) := by decide +kernel
theorem dX6_best_174 : decode cX6_best 174 = .ok (.iload_n 3, 1) := by decide +kernel
theorem dX6_best_175 : decode cX6_best 175 = .ok (.ifCond .ne 8, 3) := by decide +kernel
theorem dX6_best_178 : decode cX6_best 178 = .ok (.iload 5, 2) := by decide +kernel
theorem dX6_best_180 : decode cX6_best 180 = .ok (.goto 5, 3) := by decide +kernel
theorem dX6_best_183 : decode cX6_best 183 = .ok (.iload 6, 2) := by decide +kernel
theorem dX6_best_185 : decode cX6_best 185 = .ok (.ireturn, 1) := by decide +kernel
set_option maxRecDepth 20000 in
theorem ggX6_whence_X6_in : GoodIn wsX6_whence wsX6_in := goodIn_r _ [7] (by decide +kernel) (by decide +kernel)
set_option maxRecDepth 20000 in
theorem gX6_whence_X6_in : GoodIn wsX6_whence (va_wsS RX6 70 yX6_in wsX6_in) := goodIn_app (goodIn_of _ (by decide +kernel)) ggX6_whence_X6_in
set_option maxRecDepth 20000 in
theorem ggX6_whence_X6_isCell : GoodIn wsX6_whence wsX6_isCell := goodIn_r _ [10, 11, 4, 5, 6, 7] (by decide +kernel) (by decide +kernel)
set_option maxRecDepth 20000 in
theorem gX6_whence_X6_isCell : GoodIn wsX6_whence (va_wsS RX6 117 yX6_isCell wsX6_isCell) := goodIn_app (goodIn_of _ (by decide +kernel)) ggX6_whence_X6_isCell
set_option maxRecDepth 20000 in
theorem ggX6_whence_X6_lacks : GoodIn wsX6_whence wsX6_lacks := goodIn_r _ [15, 16, 36, 37, 38, 39, 40, 41, 42, 43, 44, 45, 46, 47, 48, 49, 50, 51, 52, 53, 54, 55, 56, 57, 58, 59, 60, 61, 62, 63, 64, 65, 66, 67] (by decide +kernel) (by decide +kernel)
set_option maxRecDepth 20000 in
theorem gX6_whence_X6_lacks : GoodIn wsX6_whence (wsV RX6 122 RX6 yX6_lacks wsX6_lacks) := goodIn_app (goodIn_of _ (by decide +kernel)) ggX6_whence_X6_lacks
set_option maxRecDepth 20000 in
theorem ggX6_whence_X6_drifts : GoodIn wsX6_whence wsX6_drifts := goodIn_r _ [20, 21, 22, 23, 24, 6, 25, 26, 27, 28, 29, 30, 16, 31, 32, 33, 34, 35, 36, 37, 38, 39, 40, 41, 42, 43, 44, 45, 46, 47, 48, 49, 50, 51, 52, 53, 54, 55, 56, 57, 58, 59, 60, 61, 62, 63, 64, 65, 66, 67] (by decide +kernel) (by decide +kernel)
set_option maxRecDepth 20000 in
theorem gX6_whence_X6_drifts : GoodIn wsX6_whence (wsV RX6 130 RX6 yX6_drifts wsX6_drifts) := goodIn_app (goodIn_of _ (by decide +kernel)) ggX6_whence_X6_drifts
theorem dX6_whence_0 : decode cX6_whence 0 = .ok (.iload_n 1, 1) := by decide +kernel
theorem dX6_whence_1 : decode cX6_whence 1 = .ok (.i2l, 1) := by decide +kernel
theorem dX6_whence_2 : decode cX6_whence 2 = .ok (.lconst 0, 1) := by decide +kernel
theorem dX6_whence_3 : decode cX6_whence 3 = .ok (.ldc2_w 134, 3) := by decide +kernel
theorem dX6_whence_6 : decode cX6_whence 6 = .ok (.invokestatic 70, 3) := by decide +kernel
theorem dX6_whence_9 : decode cX6_whence 9 = .ok (.ifCond .ne 6, 3) := by decide +kernel
theorem dX6_whence_12 : decode cX6_whence 12 = .ok (.bipush (-102), 2) := by decide +kernel
theorem dX6_whence_14 : decode cX6_whence 14 = .ok (.ireturn, 1) := by decide +kernel
theorem dX6_whence_15 : decode cX6_whence 15 = .ok (.iload_n 2, 1) := by decide +kernel
theorem dX6_whence_16 : decode cX6_whence 16 = .ok (.invokestatic 117, 3) := by decide +kernel
theorem dX6_whence_19 : decode cX6_whence 19 = .ok (.ifCond .ne 6, 3) := by decide +kernel
theorem dX6_whence_22 : decode cX6_whence 22 = .ok (.bipush (-101), 2) := by decide +kernel
theorem dX6_whence_24 : decode cX6_whence 24 = .ok (.ireturn, 1) := by decide +kernel
theorem dX6_whence_25 : decode cX6_whence 25 = .ok (.iload_n 3, 1) := by decide +kernel
theorem dX6_whence_26 : decode cX6_whence 26 = .ok (.i2l, 1) := by decide +kernel
theorem dX6_whence_27 : decode cX6_whence 27 = .ok (.lconst 1, 1) := by decide +kernel
theorem dX6_whence_28 : decode cX6_whence 28 = .ok (.ldc2_w 165, 3) := by decide +kernel
theorem dX6_whence_31 : decode cX6_whence 31 = .ok (.invokestatic 70, 3) := by decide +kernel
theorem dX6_whence_34 : decode cX6_whence 34 = .ok (.ifCond .ne 6, 3) := by decide +kernel
theorem dX6_whence_37 : decode cX6_whence 37 = .ok (.bipush (-102), 2) := by decide +kernel
theorem dX6_whence_39 : decode cX6_whence 39 = .ok (.ireturn, 1) := by decide +kernel
theorem dX6_whence_40 : decode cX6_whence 40 = .ok (.aload_n 0, 1) := by decide +kernel
theorem dX6_whence_41 : decode cX6_whence 41 = .ok (.invokevirtual 122, 3) := by decide +kernel
theorem dX6_whence_44 : decode cX6_whence 44 = .ok (.ifCond .ne 11, 3) := by decide +kernel
theorem dX6_whence_47 : decode cX6_whence 47 = .ok (.iload_n 3, 1) := by decide +kernel
theorem dX6_whence_48 : decode cX6_whence 48 = .ok (.aload_n 0, 1) := by decide +kernel
theorem dX6_whence_49 : decode cX6_whence 49 = .ok (.getfield 88, 3) := by decide +kernel
theorem dX6_whence_52 : decode cX6_whence 52 = .ok (.if_icmp .le 6, 3) := by decide +kernel
theorem dX6_whence_55 : decode cX6_whence 55 = .ok (.bipush (-103), 2) := by decide +kernel
theorem dX6_whence_57 : decode cX6_whence 57 = .ok (.ireturn, 1) := by decide +kernel
theorem dX6_whence_58 : decode cX6_whence 58 = .ok (.iconst 0, 1) := by decide +kernel
theorem dX6_whence_59 : decode cX6_whence 59 = .ok (.istore 4, 2) := by decide +kernel
theorem dX6_whence_61 : decode cX6_whence 61 = .ok (.iconst 0, 1) := by decide +kernel
theorem dX6_whence_62 : decode cX6_whence 62 = .ok (.istore 5, 2) := by decide +kernel
theorem dX6_whence_64 : decode cX6_whence 64 = .ok (.iload 5, 2) := by decide +kernel
theorem dX6_whence_66 : decode cX6_whence 66 = .ok (.bipush 8, 2) := by decide +kernel
theorem dX6_whence_68 : decode cX6_whence 68 = .ok (.if_icmp .ge 62, 3) := by decide +kernel
theorem dX6_whence_71 : decode cX6_whence 71 = .ok (.iload 5, 2) := by decide +kernel
theorem dX6_whence_73 : decode cX6_whence 73 = .ok (.istore 6, 2) := by decide +kernel
theorem dX6_whence_75 : decode cX6_whence 75 = .ok (.iload_n 3, 1) := by decide +kernel
theorem dX6_whence_76 : decode cX6_whence 76 = .ok (.istore 7, 2) := by decide +kernel
theorem dX6_whence_78 : decode cX6_whence 78 = .ok (.iload 7, 2) := by decide +kernel
theorem dX6_whence_80 : decode cX6_whence 80 = .ok (.ifCond .le 25, 3) := by decide +kernel
theorem dX6_whence_83 : decode cX6_whence 83 = .ok (.aload_n 0, 1) := by decide +kernel
theorem dX6_whence_84 : decode cX6_whence 84 = .ok (.iload_n 1, 1) := by decide +kernel
theorem dX6_whence_85 : decode cX6_whence 85 = .ok (.iload 6, 2) := by decide +kernel
theorem dX6_whence_87 : decode cX6_whence 87 = .ok (.aload_n 0, 1) := by decide +kernel
theorem dX6_whence_88 : decode cX6_whence 88 = .ok (.getfield 88, 3) := by decide +kernel
theorem dX6_whence_91 : decode cX6_whence 91 = .ok (.iload 7, 2) := by decide +kernel
theorem dX6_whence_93 : decode cX6_whence 93 = .ok (.isub, 1) := by decide +kernel
theorem dX6_whence_94 : decode cX6_whence 94 = .ok (.invokevirtual 130, 3) := by decide +kernel
theorem dX6_whence_97 : decode cX6_whence 97 = .ok (.istore 6, 2) := by decide +kernel
theorem dX6_whence_99 : decode cX6_whence 99 = .ok (.iinc 7 (-1), 3) := by decide +kernel
theorem dX6_whence_102 : decode cX6_whence 102 = .ok (.goto (-24), 3) := by decide +kernel
theorem dX6_whence_105 : decode cX6_whence 105 = .ok (.iload 4, 2) := by decide +kernel
theorem dX6_whence_107 : decode cX6_whence 107 = .ok (.iload 6, 2) := by decide +kernel
theorem dX6_whence_109 : decode cX6_whence 109 = .ok (.iload_n 2, 1) := by decide +kernel
theorem dX6_whence_110 : decode cX6_whence 110 = .ok (.if_icmp .ne 10, 3) := by decide +kernel
theorem dX6_whence_113 : decode cX6_whence 113 = .ok (.iconst 1, 1) := by decide +kernel
theorem dX6_whence_114 : decode cX6_whence 114 = .ok (.iload 5, 2) := by decide +kernel
theorem dX6_whence_116 : decode cX6_whence 116 = .ok (.ishl, 1) := by decide +kernel
theorem dX6_whence_117 : decode cX6_whence 117 = .ok (.goto 4, 3) := by decide +kernel
theorem dX6_whence_120 : decode cX6_whence 120 = .ok (.iconst 0, 1) := by decide +kernel
theorem dX6_whence_121 : decode cX6_whence 121 = .ok (.ior, 1) := by decide +kernel
theorem dX6_whence_122 : decode cX6_whence 122 = .ok (.istore 4, 2) := by decide +kernel
theorem dX6_whence_124 : decode cX6_whence 124 = .ok (.iinc 5 1, 3) := by decide +kernel
theorem dX6_whence_127 : decode cX6_whence 127 = .ok (.goto (-63), 3) := by decide +kernel
theorem dX6_whence_130 : decode cX6_whence 130 = .ok (.iload 4, 2) := by decide +kernel
theorem dX6_whence_132 : decode cX6_whence 132 = .ok (.ireturn, 1) := by decide +kernel
set_option maxRecDepth 20000 in
theorem ggX6_uncovered_X6_isCell : GoodIn wsX6_uncovered wsX6_isCell := goodIn_r _ [6, 7, 8, 9, 5, 10] (by decide +kernel) (by decide +kernel)
set_option maxRecDepth 20000 in
theorem gX6_uncovered_X6_isCell : GoodIn wsX6_uncovered (va_wsS RX6 117 yX6_isCell wsX6_isCell) := goodIn_app (goodIn_of _ (by decide +kernel)) ggX6_uncovered_X6_isCell
set_option maxRecDepth 20000 in
theorem ggX6_uncovered_X6_lacks : GoodIn wsX6_uncovered wsX6_lacks := goodIn_r _ [14, 15, 30, 31, 32, 33, 34, 35, 36, 37, 38, 39, 40, 41, 42, 43, 44, 45, 46, 47, 48, 49, 50, 51, 52, 53, 54, 55, 56, 57, 58, 59, 60, 61] (by decide +kernel) (by decide +kernel)
set_option maxRecDepth 20000 in
theorem gX6_uncovered_X6_lacks : GoodIn wsX6_uncovered (wsV RX6 122 RX6 yX6_lacks wsX6_lacks) := goodIn_app (goodIn_of _ (by decide +kernel)) ggX6_uncovered_X6_lacks
set_option maxRecDepth 20000 in
theorem ggX6_uncovered_X6_isDry : GoodIn wsX6_uncovered wsX6_isDry := goodIn_r _ [19, 20, 21, 22, 5, 23, 24, 15, 25, 26, 27, 28, 29, 30, 31, 32, 33, 34, 35, 36, 37, 38, 39, 40, 41, 42, 43, 44, 45, 46, 47, 48, 49, 50, 51, 52, 53, 54, 55, 56, 57, 58, 59, 60, 61] (by decide +kernel) (by decide +kernel)
set_option maxRecDepth 20000 in
theorem gX6_uncovered_X6_isDry : GoodIn wsX6_uncovered (wsV RX6 110 RX6 yX6_isDry wsX6_isDry) := goodIn_app (goodIn_of _ (by decide +kernel)) ggX6_uncovered_X6_isDry
theorem dX6_uncovered_0 : decode cX6_uncovered 0 = .ok (.iload_n 1, 1) := by decide +kernel
theorem dX6_uncovered_1 : decode cX6_uncovered 1 = .ok (.iconst (-1), 1) := by decide +kernel
theorem dX6_uncovered_2 : decode cX6_uncovered 2 = .ok (.if_icmp .eq 13, 3) := by decide +kernel
theorem dX6_uncovered_5 : decode cX6_uncovered 5 = .ok (.iload_n 1, 1) := by decide +kernel
theorem dX6_uncovered_6 : decode cX6_uncovered 6 = .ok (.invokestatic 117, 3) := by decide +kernel
theorem dX6_uncovered_9 : decode cX6_uncovered 9 = .ok (.ifCond .ne 6, 3) := by decide +kernel
theorem dX6_uncovered_12 : decode cX6_uncovered 12 = .ok (.bipush (-101), 2) := by decide +kernel
theorem dX6_uncovered_14 : decode cX6_uncovered 14 = .ok (.ireturn, 1) := by decide +kernel
theorem dX6_uncovered_15 : decode cX6_uncovered 15 = .ok (.aload_n 0, 1) := by decide +kernel
theorem dX6_uncovered_16 : decode cX6_uncovered 16 = .ok (.invokevirtual 122, 3) := by decide +kernel
theorem dX6_uncovered_19 : decode cX6_uncovered 19 = .ok (.ifCond .eq 6, 3) := by decide +kernel
theorem dX6_uncovered_22 : decode cX6_uncovered 22 = .ok (.bipush (-103), 2) := by decide +kernel
theorem dX6_uncovered_24 : decode cX6_uncovered 24 = .ok (.ireturn, 1) := by decide +kernel
theorem dX6_uncovered_25 : decode cX6_uncovered 25 = .ok (.iconst 0, 1) := by decide +kernel
theorem dX6_uncovered_26 : decode cX6_uncovered 26 = .ok (.istore_n 2, 1) := by decide +kernel
theorem dX6_uncovered_27 : decode cX6_uncovered 27 = .ok (.iconst 0, 1) := by decide +kernel
theorem dX6_uncovered_28 : decode cX6_uncovered 28 = .ok (.istore_n 3, 1) := by decide +kernel
theorem dX6_uncovered_29 : decode cX6_uncovered 29 = .ok (.iload_n 3, 1) := by decide +kernel
theorem dX6_uncovered_30 : decode cX6_uncovered 30 = .ok (.bipush 8, 2) := by decide +kernel
theorem dX6_uncovered_32 : decode cX6_uncovered 32 = .ok (.if_icmp .ge 48, 3) := by decide +kernel
theorem dX6_uncovered_35 : decode cX6_uncovered 35 = .ok (.iload_n 2, 1) := by decide +kernel
theorem dX6_uncovered_36 : decode cX6_uncovered 36 = .ok (.aload_n 0, 1) := by decide +kernel
theorem dX6_uncovered_37 : decode cX6_uncovered 37 = .ok (.iload_n 3, 1) := by decide +kernel
theorem dX6_uncovered_38 : decode cX6_uncovered 38 = .ok (.aload_n 0, 1) := by decide +kernel
theorem dX6_uncovered_39 : decode cX6_uncovered 39 = .ok (.getfield 88, 3) := by decide +kernel
theorem dX6_uncovered_42 : decode cX6_uncovered 42 = .ok (.iload_n 1, 1) := by decide +kernel
theorem dX6_uncovered_43 : decode cX6_uncovered 43 = .ok (.invokevirtual 110, 3) := by decide +kernel
theorem dX6_uncovered_46 : decode cX6_uncovered 46 = .ok (.ifCond .eq 25, 3) := by decide +kernel
theorem dX6_uncovered_49 : decode cX6_uncovered 49 = .ok (.aload_n 0, 1) := by decide +kernel
theorem dX6_uncovered_50 : decode cX6_uncovered 50 = .ok (.iload_n 3, 1) := by decide +kernel
theorem dX6_uncovered_51 : decode cX6_uncovered 51 = .ok (.aload_n 0, 1) := by decide +kernel
theorem dX6_uncovered_52 : decode cX6_uncovered 52 = .ok (.getfield 88, 3) := by decide +kernel
theorem dX6_uncovered_55 : decode cX6_uncovered 55 = .ok (.aload_n 0, 1) := by decide +kernel
theorem dX6_uncovered_56 : decode cX6_uncovered 56 = .ok (.getfield 47, 3) := by decide +kernel
theorem dX6_uncovered_59 : decode cX6_uncovered 59 = .ok (.invokevirtual 110, 3) := by decide +kernel
theorem dX6_uncovered_62 : decode cX6_uncovered 62 = .ok (.ifCond .ne 9, 3) := by decide +kernel
theorem dX6_uncovered_65 : decode cX6_uncovered 65 = .ok (.iconst 1, 1) := by decide +kernel
theorem dX6_uncovered_66 : decode cX6_uncovered 66 = .ok (.iload_n 3, 1) := by decide +kernel
theorem dX6_uncovered_67 : decode cX6_uncovered 67 = .ok (.ishl, 1) := by decide +kernel
theorem dX6_uncovered_68 : decode cX6_uncovered 68 = .ok (.goto 4, 3) := by decide +kernel
theorem dX6_uncovered_71 : decode cX6_uncovered 71 = .ok (.iconst 0, 1) := by decide +kernel
theorem dX6_uncovered_72 : decode cX6_uncovered 72 = .ok (.ior, 1) := by decide +kernel
theorem dX6_uncovered_73 : decode cX6_uncovered 73 = .ok (.istore_n 2, 1) := by decide +kernel
theorem dX6_uncovered_74 : decode cX6_uncovered 74 = .ok (.iinc 3 1, 3) := by decide +kernel
theorem dX6_uncovered_77 : decode cX6_uncovered 77 = .ok (.goto (-48), 3) := by decide +kernel
theorem dX6_uncovered_80 : decode cX6_uncovered 80 = .ok (.iload_n 2, 1) := by decide +kernel
theorem dX6_uncovered_81 : decode cX6_uncovered 81 = .ok (.ireturn, 1) := by decide +kernel
set_option maxRecDepth 20000 in
theorem ggX6_bell_X6_in : GoodIn wsX6_bell wsX6_in := goodIn_r _ [7] (by decide +kernel) (by decide +kernel)
set_option maxRecDepth 20000 in
theorem gX6_bell_X6_in : GoodIn wsX6_bell (va_wsS RX6 70 yX6_in wsX6_in) := goodIn_app (goodIn_of _ (by decide +kernel)) ggX6_bell_X6_in
set_option maxRecDepth 20000 in
theorem ggX6_bell_X6_lacks : GoodIn wsX6_bell wsX6_lacks := goodIn_r _ [11, 2, 17, 18, 19, 20, 21, 22, 23, 24, 25, 26, 27, 28, 29, 30, 31, 32, 33, 34, 35, 36, 37, 38, 39, 40, 41, 42, 43, 44, 45, 46, 47, 48] (by decide +kernel) (by decide +kernel)
set_option maxRecDepth 20000 in
theorem gX6_bell_X6_lacks : GoodIn wsX6_bell (wsV RX6 122 RX6 yX6_lacks wsX6_lacks) := goodIn_app (goodIn_of _ (by decide +kernel)) ggX6_bell_X6_lacks
set_option maxRecDepth 20000 in
theorem ggX6_bell_X6_heightAt : GoodIn wsX6_bell wsX6_heightAt := goodIn_r _ [15, 16, 2, 17, 18, 19, 20, 21, 22, 23, 24, 25, 26, 27, 28, 29, 30, 31, 32, 33, 34, 35, 36, 37, 38, 39, 40, 41, 42, 43, 44, 45, 46, 47, 48] (by decide +kernel) (by decide +kernel)
set_option maxRecDepth 20000 in
theorem gX6_bell_X6_heightAt : GoodIn wsX6_bell (wsV RX6 102 RX6 yX6_heightAt wsX6_heightAt) := goodIn_app (goodIn_of _ (by decide +kernel)) ggX6_bell_X6_heightAt
theorem dX6_bell_0 : decode cX6_bell 0 = .ok (.iload_n 1, 1) := by decide +kernel
theorem dX6_bell_1 : decode cX6_bell 1 = .ok (.i2l, 1) := by decide +kernel
theorem dX6_bell_2 : decode cX6_bell 2 = .ok (.lconst 0, 1) := by decide +kernel
theorem dX6_bell_3 : decode cX6_bell 3 = .ok (.ldc2_w 68, 3) := by decide +kernel
theorem dX6_bell_6 : decode cX6_bell 6 = .ok (.invokestatic 70, 3) := by decide +kernel
theorem dX6_bell_9 : decode cX6_bell 9 = .ok (.ifCond .ne 6, 3) := by decide +kernel
theorem dX6_bell_12 : decode cX6_bell 12 = .ok (.bipush (-102), 2) := by decide +kernel
theorem dX6_bell_14 : decode cX6_bell 14 = .ok (.ireturn, 1) := by decide +kernel
theorem dX6_bell_15 : decode cX6_bell 15 = .ok (.aload_n 0, 1) := by decide +kernel
theorem dX6_bell_16 : decode cX6_bell 16 = .ok (.invokevirtual 122, 3) := by decide +kernel
theorem dX6_bell_19 : decode cX6_bell 19 = .ok (.ifCond .eq 6, 3) := by decide +kernel
theorem dX6_bell_22 : decode cX6_bell 22 = .ok (.bipush (-103), 2) := by decide +kernel
theorem dX6_bell_24 : decode cX6_bell 24 = .ok (.ireturn, 1) := by decide +kernel
theorem dX6_bell_25 : decode cX6_bell 25 = .ok (.iconst 0, 1) := by decide +kernel
theorem dX6_bell_26 : decode cX6_bell 26 = .ok (.istore_n 2, 1) := by decide +kernel
theorem dX6_bell_27 : decode cX6_bell 27 = .ok (.iload_n 2, 1) := by decide +kernel
theorem dX6_bell_28 : decode cX6_bell 28 = .ok (.aload_n 0, 1) := by decide +kernel
theorem dX6_bell_29 : decode cX6_bell 29 = .ok (.getfield 82, 3) := by decide +kernel
theorem dX6_bell_32 : decode cX6_bell 32 = .ok (.if_icmp .ge 25, 3) := by decide +kernel
theorem dX6_bell_35 : decode cX6_bell 35 = .ok (.aload_n 0, 1) := by decide +kernel
theorem dX6_bell_36 : decode cX6_bell 36 = .ok (.aload_n 0, 1) := by decide +kernel
theorem dX6_bell_37 : decode cX6_bell 37 = .ok (.getfield 88, 3) := by decide +kernel
theorem dX6_bell_40 : decode cX6_bell 40 = .ok (.iload_n 2, 1) := by decide +kernel
theorem dX6_bell_41 : decode cX6_bell 41 = .ok (.iadd, 1) := by decide +kernel
theorem dX6_bell_42 : decode cX6_bell 42 = .ok (.invokevirtual 102, 3) := by decide +kernel
theorem dX6_bell_45 : decode cX6_bell 45 = .ok (.iload_n 1, 1) := by decide +kernel
theorem dX6_bell_46 : decode cX6_bell 46 = .ok (.if_icmp .lt 5, 3) := by decide +kernel
theorem dX6_bell_49 : decode cX6_bell 49 = .ok (.iload_n 2, 1) := by decide +kernel
theorem dX6_bell_50 : decode cX6_bell 50 = .ok (.ireturn, 1) := by decide +kernel
theorem dX6_bell_51 : decode cX6_bell 51 = .ok (.iinc 2 1, 3) := by decide +kernel
theorem dX6_bell_54 : decode cX6_bell 54 = .ok (.goto (-27), 3) := by decide +kernel
theorem dX6_bell_57 : decode cX6_bell 57 = .ok (.iconst (-1), 1) := by decide +kernel
theorem dX6_bell_58 : decode cX6_bell 58 = .ok (.ireturn, 1) := by decide +kernel
set_option maxRecDepth 20000 in
theorem ggX6_newStairOf_X6_shareOf : GoodIn wsX6_newStairOf wsX6_shareOf := goodIn_r _ [6, 7, 8, 9, 10, 5, 11, 12, 13, 14, 15, 16, 17, 18, 19, 20, 21, 22, 23, 24, 25, 26, 27, 28, 29, 30, 31, 32, 33, 34, 35, 36, 37, 38, 39, 40, 41, 42, 43, 44, 45, 46] (by decide +kernel) (by decide +kernel)
set_option maxRecDepth 20000 in
theorem gX6_newStairOf_X6_shareOf : GoodIn wsX6_newStairOf (wsV RX6 152 RX6 yX6_shareOf wsX6_shareOf) := goodIn_app (goodIn_of _ (by decide +kernel)) ggX6_newStairOf_X6_shareOf
theorem dX6_newStairOf_0 : decode cX6_newStairOf 0 = .ok (.iconst (-1), 1) := by decide +kernel
theorem dX6_newStairOf_1 : decode cX6_newStairOf 1 = .ok (.istore_n 1, 1) := by decide +kernel
theorem dX6_newStairOf_2 : decode cX6_newStairOf 2 = .ok (.iconst (-1), 1) := by decide +kernel
theorem dX6_newStairOf_3 : decode cX6_newStairOf 3 = .ok (.istore_n 2, 1) := by decide +kernel
theorem dX6_newStairOf_4 : decode cX6_newStairOf 4 = .ok (.iconst 0, 1) := by decide +kernel
theorem dX6_newStairOf_5 : decode cX6_newStairOf 5 = .ok (.istore_n 3, 1) := by decide +kernel
theorem dX6_newStairOf_6 : decode cX6_newStairOf 6 = .ok (.iload_n 3, 1) := by decide +kernel
theorem dX6_newStairOf_7 : decode cX6_newStairOf 7 = .ok (.bipush 8, 2) := by decide +kernel
theorem dX6_newStairOf_9 : decode cX6_newStairOf 9 = .ok (.if_icmp .ge 65, 3) := by decide +kernel
theorem dX6_newStairOf_12 : decode cX6_newStairOf 12 = .ok (.aload_n 0, 1) := by decide +kernel
theorem dX6_newStairOf_13 : decode cX6_newStairOf 13 = .ok (.getfield 85, 3) := by decide +kernel
theorem dX6_newStairOf_16 : decode cX6_newStairOf 16 = .ok (.iload_n 3, 1) := by decide +kernel
theorem dX6_newStairOf_17 : decode cX6_newStairOf 17 = .ok (.ishr, 1) := by decide +kernel
theorem dX6_newStairOf_18 : decode cX6_newStairOf 18 = .ok (.iconst 1, 1) := by decide +kernel
theorem dX6_newStairOf_19 : decode cX6_newStairOf 19 = .ok (.iand, 1) := by decide +kernel
theorem dX6_newStairOf_20 : decode cX6_newStairOf 20 = .ok (.iconst 1, 1) := by decide +kernel
theorem dX6_newStairOf_21 : decode cX6_newStairOf 21 = .ok (.if_icmp .ne 7, 3) := by decide +kernel
theorem dX6_newStairOf_24 : decode cX6_newStairOf 24 = .ok (.iconst (-1), 1) := by decide +kernel
theorem dX6_newStairOf_25 : decode cX6_newStairOf 25 = .ok (.goto 16, 3) := by decide +kernel
theorem dX6_newStairOf_28 : decode cX6_newStairOf 28 = .ok (.aload_n 0, 1) := by decide +kernel
theorem dX6_newStairOf_29 : decode cX6_newStairOf 29 = .ok (.iload_n 3, 1) := by decide +kernel
theorem dX6_newStairOf_30 : decode cX6_newStairOf 30 = .ok (.aload_n 0, 1) := by decide +kernel
theorem dX6_newStairOf_31 : decode cX6_newStairOf 31 = .ok (.getfield 85, 3) := by decide +kernel
theorem dX6_newStairOf_34 : decode cX6_newStairOf 34 = .ok (.iconst 1, 1) := by decide +kernel
theorem dX6_newStairOf_35 : decode cX6_newStairOf 35 = .ok (.iload_n 3, 1) := by decide +kernel
theorem dX6_newStairOf_36 : decode cX6_newStairOf 36 = .ok (.ishl, 1) := by decide +kernel
theorem dX6_newStairOf_37 : decode cX6_newStairOf 37 = .ok (.ior, 1) := by decide +kernel
theorem dX6_newStairOf_38 : decode cX6_newStairOf 38 = .ok (.invokevirtual 152, 3) := by decide +kernel
theorem dX6_newStairOf_41 : decode cX6_newStairOf 41 = .ok (.istore 4, 2) := by decide +kernel
theorem dX6_newStairOf_43 : decode cX6_newStairOf 43 = .ok (.iload 4, 2) := by decide +kernel
theorem dX6_newStairOf_45 : decode cX6_newStairOf 45 = .ok (.iload_n 2, 1) := by decide +kernel
theorem dX6_newStairOf_46 : decode cX6_newStairOf 46 = .ok (.if_icmp .le 7, 3) := by decide +kernel
theorem dX6_newStairOf_49 : decode cX6_newStairOf 49 = .ok (.iload_n 3, 1) := by decide +kernel
theorem dX6_newStairOf_50 : decode cX6_newStairOf 50 = .ok (.goto 4, 3) := by decide +kernel
theorem dX6_newStairOf_53 : decode cX6_newStairOf 53 = .ok (.iload_n 1, 1) := by decide +kernel
theorem dX6_newStairOf_54 : decode cX6_newStairOf 54 = .ok (.istore_n 1, 1) := by decide +kernel
theorem dX6_newStairOf_55 : decode cX6_newStairOf 55 = .ok (.iload 4, 2) := by decide +kernel
theorem dX6_newStairOf_57 : decode cX6_newStairOf 57 = .ok (.iload_n 2, 1) := by decide +kernel
theorem dX6_newStairOf_58 : decode cX6_newStairOf 58 = .ok (.if_icmp .le 8, 3) := by decide +kernel
theorem dX6_newStairOf_61 : decode cX6_newStairOf 61 = .ok (.iload 4, 2) := by decide +kernel
theorem dX6_newStairOf_63 : decode cX6_newStairOf 63 = .ok (.goto 4, 3) := by decide +kernel
theorem dX6_newStairOf_66 : decode cX6_newStairOf 66 = .ok (.iload_n 2, 1) := by decide +kernel
theorem dX6_newStairOf_67 : decode cX6_newStairOf 67 = .ok (.istore_n 2, 1) := by decide +kernel
theorem dX6_newStairOf_68 : decode cX6_newStairOf 68 = .ok (.iinc 3 1, 3) := by decide +kernel
theorem dX6_newStairOf_71 : decode cX6_newStairOf 71 = .ok (.goto (-65), 3) := by decide +kernel
theorem dX6_newStairOf_74 : decode cX6_newStairOf 74 = .ok (.iload_n 1, 1) := by decide +kernel
theorem dX6_newStairOf_75 : decode cX6_newStairOf 75 = .ok (.ireturn, 1) := by decide +kernel
set_option maxRecDepth 20000 in
theorem ggX6_newStair_X6_lacks : GoodIn wsX6_newStair wsX6_lacks := goodIn_r _ [5, 6, 24, 25, 26, 27, 28, 29, 30, 31, 32, 33, 34, 35, 36, 37, 38, 39, 40, 41, 42, 43, 44, 45, 46, 47, 48, 49, 50, 51, 52, 53, 54, 55] (by decide +kernel) (by decide +kernel)
set_option maxRecDepth 20000 in
theorem gX6_newStair_X6_lacks : GoodIn wsX6_newStair (wsV RX6 122 RX6 yX6_lacks wsX6_lacks) := goodIn_app (goodIn_of _ (by decide +kernel)) ggX6_newStair_X6_lacks
set_option maxRecDepth 20000 in
theorem ggX6_newStair_X6_newStairOf : GoodIn wsX6_newStair wsX6_newStairOf := goodIn_r _ [10, 11, 12, 13, 14, 4, 15, 16, 17, 18, 19, 20, 21, 22, 23, 24, 25, 26, 27, 28, 29, 30, 31, 32, 33, 34, 35, 36, 37, 38, 39, 40, 41, 42, 43, 44, 45, 46, 47, 48, 49, 50, 51, 52, 53, 54, 55] (by decide +kernel) (by decide +kernel)
set_option maxRecDepth 20000 in
theorem gX6_newStair_X6_newStairOf : GoodIn wsX6_newStair (wsV RX6 167 RX6 yX6_newStairOf wsX6_newStairOf) := goodIn_app (goodIn_of _ (by decide +kernel)) ggX6_newStair_X6_newStairOf
theorem dX6_newStair_0 : decode cX6_newStair 0 = .ok (.aload_n 0, 1) := by decide +kernel
theorem dX6_newStair_1 : decode cX6_newStair 1 = .ok (.invokevirtual 122, 3) := by decide +kernel
theorem dX6_newStair_4 : decode cX6_newStair 4 = .ok (.ifCond .eq 8, 3) := by decide +kernel
theorem dX6_newStair_7 : decode cX6_newStair 7 = .ok (.bipush (-103), 2) := by decide +kernel
theorem dX6_newStair_9 : decode cX6_newStair 9 = .ok (.goto 7, 3) := by decide +kernel
theorem dX6_newStair_12 : decode cX6_newStair 12 = .ok (.aload_n 0, 1) := by decide +kernel
theorem dX6_newStair_13 : decode cX6_newStair 13 = .ok (.invokevirtual 167, 3) := by decide +kernel
theorem dX6_newStair_16 : decode cX6_newStair 16 = .ok (.ireturn, 1) := by decide +kernel
set_option maxRecDepth 20000 in
theorem ggX6_mark_X6_in : GoodIn wsX6_mark wsX6_in := goodIn_r _ [8] (by decide +kernel) (by decide +kernel)
set_option maxRecDepth 20000 in
theorem gX6_mark_X6_in : GoodIn wsX6_mark (va_wsS RX6 70 yX6_in wsX6_in) := goodIn_app (goodIn_of _ (by decide +kernel)) ggX6_mark_X6_in
set_option maxRecDepth 20000 in
theorem ggX6_mark_X6_isCell : GoodIn wsX6_mark wsX6_isCell := goodIn_r _ [11, 12, 5, 6, 7, 8] (by decide +kernel) (by decide +kernel)
set_option maxRecDepth 20000 in
theorem gX6_mark_X6_isCell : GoodIn wsX6_mark (va_wsS RX6 117 yX6_isCell wsX6_isCell) := goodIn_app (goodIn_of _ (by decide +kernel)) ggX6_mark_X6_isCell
set_option maxRecDepth 20000 in
theorem ggX6_mark_X6_lacks : GoodIn wsX6_mark wsX6_lacks := goodIn_r _ [16, 17, 18, 19, 20, 21, 22, 23, 24, 25, 26, 27, 28, 29, 30, 31, 32, 33, 34, 35, 36, 37, 38, 39, 40, 41, 42, 43, 44, 45, 46, 47, 48, 49] (by decide +kernel) (by decide +kernel)
set_option maxRecDepth 20000 in
theorem gX6_mark_X6_lacks : GoodIn wsX6_mark (wsV RX6 122 RX6 yX6_lacks wsX6_lacks) := goodIn_app (goodIn_of _ (by decide +kernel)) ggX6_mark_X6_lacks
theorem dX6_mark_0 : decode cX6_mark 0 = .ok (.iload_n 1, 1) := by decide +kernel
theorem dX6_mark_1 : decode cX6_mark 1 = .ok (.i2l, 1) := by decide +kernel
theorem dX6_mark_2 : decode cX6_mark 2 = .ok (.lconst 0, 1) := by decide +kernel
theorem dX6_mark_3 : decode cX6_mark 3 = .ok (.ldc2_w 128, 3) := by decide +kernel
theorem dX6_mark_6 : decode cX6_mark 6 = .ok (.invokestatic 70, 3) := by decide +kernel
theorem dX6_mark_9 : decode cX6_mark 9 = .ok (.ifCond .ne 6, 3) := by decide +kernel
theorem dX6_mark_12 : decode cX6_mark 12 = .ok (.bipush (-102), 2) := by decide +kernel
theorem dX6_mark_14 : decode cX6_mark 14 = .ok (.ireturn, 1) := by decide +kernel
theorem dX6_mark_15 : decode cX6_mark 15 = .ok (.iload_n 2, 1) := by decide +kernel
theorem dX6_mark_16 : decode cX6_mark 16 = .ok (.invokestatic 117, 3) := by decide +kernel
theorem dX6_mark_19 : decode cX6_mark 19 = .ok (.ifCond .ne 6, 3) := by decide +kernel
theorem dX6_mark_22 : decode cX6_mark 22 = .ok (.bipush (-101), 2) := by decide +kernel
theorem dX6_mark_24 : decode cX6_mark 24 = .ok (.ireturn, 1) := by decide +kernel
theorem dX6_mark_25 : decode cX6_mark 25 = .ok (.aload_n 0, 1) := by decide +kernel
theorem dX6_mark_26 : decode cX6_mark 26 = .ok (.invokevirtual 122, 3) := by decide +kernel
theorem dX6_mark_29 : decode cX6_mark 29 = .ok (.ifCond .eq 6, 3) := by decide +kernel
theorem dX6_mark_32 : decode cX6_mark 32 = .ok (.bipush (-103), 2) := by decide +kernel
theorem dX6_mark_34 : decode cX6_mark 34 = .ok (.ireturn, 1) := by decide +kernel
theorem dX6_mark_35 : decode cX6_mark 35 = .ok (.aload_n 0, 1) := by decide +kernel
theorem dX6_mark_36 : decode cX6_mark 36 = .ok (.getfield 94, 3) := by decide +kernel
theorem dX6_mark_39 : decode cX6_mark 39 = .ok (.istore_n 3, 1) := by decide +kernel
theorem dX6_mark_40 : decode cX6_mark 40 = .ok (.aload_n 0, 1) := by decide +kernel
theorem dX6_mark_41 : decode cX6_mark 41 = .ok (.iload_n 1, 1) := by decide +kernel
theorem dX6_mark_42 : decode cX6_mark 42 = .ok (.putfield 170, 3) := by decide +kernel
theorem dX6_mark_45 : decode cX6_mark 45 = .ok (.aload_n 0, 1) := by decide +kernel
theorem dX6_mark_46 : decode cX6_mark 46 = .ok (.getfield 31, 3) := by decide +kernel
theorem dX6_mark_49 : decode cX6_mark 49 = .ok (.iconst 0, 1) := by decide +kernel
theorem dX6_mark_50 : decode cX6_mark 50 = .ok (.iload_n 2, 1) := by decide +kernel
theorem dX6_mark_51 : decode cX6_mark 51 = .ok (.iastore, 1) := by decide +kernel
theorem dX6_mark_52 : decode cX6_mark 52 = .ok (.aload_n 0, 1) := by decide +kernel
theorem dX6_mark_53 : decode cX6_mark 53 = .ok (.iconst 1, 1) := by decide +kernel
theorem dX6_mark_54 : decode cX6_mark 54 = .ok (.putfield 94, 3) := by decide +kernel
theorem dX6_mark_57 : decode cX6_mark 57 = .ok (.iload_n 3, 1) := by decide +kernel
theorem dX6_mark_58 : decode cX6_mark 58 = .ok (.ireturn, 1) := by decide +kernel
set_option maxRecDepth 20000 in
theorem ggX6_then_X6_isCell : GoodIn wsX6_then wsX6_isCell := goodIn_r _ [6, 7, 8, 9, 5, 10] (by decide +kernel) (by decide +kernel)
set_option maxRecDepth 20000 in
theorem gX6_then_X6_isCell : GoodIn wsX6_then (va_wsS RX6 117 yX6_isCell wsX6_isCell) := goodIn_app (goodIn_of _ (by decide +kernel)) ggX6_then_X6_isCell
theorem dX6_then_0 : decode cX6_then 0 = .ok (.aload_n 0, 1) := by decide +kernel
theorem dX6_then_1 : decode cX6_then 1 = .ok (.getfield 94, 3) := by decide +kernel
theorem dX6_then_4 : decode cX6_then 4 = .ok (.ifCond .ne 6, 3) := by decide +kernel
theorem dX6_then_7 : decode cX6_then 7 = .ok (.bipush (-103), 2) := by decide +kernel
theorem dX6_then_9 : decode cX6_then 9 = .ok (.ireturn, 1) := by decide +kernel
theorem dX6_then_10 : decode cX6_then 10 = .ok (.iload_n 1, 1) := by decide +kernel
theorem dX6_then_11 : decode cX6_then 11 = .ok (.bipush (-2), 2) := by decide +kernel
theorem dX6_then_13 : decode cX6_then 13 = .ok (.if_icmp .eq 13, 3) := by decide +kernel
theorem dX6_then_16 : decode cX6_then 16 = .ok (.iload_n 1, 1) := by decide +kernel
theorem dX6_then_17 : decode cX6_then 17 = .ok (.invokestatic 117, 3) := by decide +kernel
theorem dX6_then_20 : decode cX6_then 20 = .ok (.ifCond .ne 6, 3) := by decide +kernel
theorem dX6_then_23 : decode cX6_then 23 = .ok (.bipush (-101), 2) := by decide +kernel
theorem dX6_then_25 : decode cX6_then 25 = .ok (.ireturn, 1) := by decide +kernel
theorem dX6_then_26 : decode cX6_then 26 = .ok (.aload_n 0, 1) := by decide +kernel
theorem dX6_then_27 : decode cX6_then 27 = .ok (.getfield 94, 3) := by decide +kernel
theorem dX6_then_30 : decode cX6_then 30 = .ok (.bipush 8, 2) := by decide +kernel
theorem dX6_then_32 : decode cX6_then 32 = .ok (.if_icmp .ne 6, 3) := by decide +kernel
theorem dX6_then_35 : decode cX6_then 35 = .ok (.bipush (-104), 2) := by decide +kernel
theorem dX6_then_37 : decode cX6_then 37 = .ok (.ireturn, 1) := by decide +kernel
theorem dX6_then_38 : decode cX6_then 38 = .ok (.aload_n 0, 1) := by decide +kernel
theorem dX6_then_39 : decode cX6_then 39 = .ok (.getfield 31, 3) := by decide +kernel
theorem dX6_then_42 : decode cX6_then 42 = .ok (.aload_n 0, 1) := by decide +kernel
theorem dX6_then_43 : decode cX6_then 43 = .ok (.getfield 94, 3) := by decide +kernel
theorem dX6_then_46 : decode cX6_then 46 = .ok (.iload_n 1, 1) := by decide +kernel
theorem dX6_then_47 : decode cX6_then 47 = .ok (.iastore, 1) := by decide +kernel
theorem dX6_then_48 : decode cX6_then 48 = .ok (.aload_n 0, 1) := by decide +kernel
theorem dX6_then_49 : decode cX6_then 49 = .ok (.dup, 1) := by decide +kernel
theorem dX6_then_50 : decode cX6_then 50 = .ok (.getfield 94, 3) := by decide +kernel
theorem dX6_then_53 : decode cX6_then 53 = .ok (.iconst 1, 1) := by decide +kernel
theorem dX6_then_54 : decode cX6_then 54 = .ok (.iadd, 1) := by decide +kernel
theorem dX6_then_55 : decode cX6_then 55 = .ok (.putfield 94, 3) := by decide +kernel
theorem dX6_then_58 : decode cX6_then 58 = .ok (.aload_n 0, 1) := by decide +kernel
theorem dX6_then_59 : decode cX6_then 59 = .ok (.getfield 94, 3) := by decide +kernel
theorem dX6_then_62 : decode cX6_then 62 = .ok (.ireturn, 1) := by decide +kernel
set_option maxRecDepth 20000 in
theorem ggX6_fitsOf_X6_drifts : GoodIn wsX6_fitsOf wsX6_drifts := goodIn_r _ [8, 9, 10, 11, 12, 7, 13, 14, 15, 16, 17, 18, 19, 20, 21, 22, 23, 24, 25, 26, 27, 28, 29, 30, 31, 32, 33, 34, 35, 36, 37, 38, 39, 40, 41, 42, 43, 44, 45, 46, 47, 48, 49, 50, 51, 52, 53, 54, 55, 56] (by decide +kernel) (by decide +kernel)
set_option maxRecDepth 20000 in
theorem gX6_fitsOf_X6_drifts : GoodIn wsX6_fitsOf (wsV RX6 130 RX6 yX6_drifts wsX6_drifts) := goodIn_app (goodIn_of _ (by decide +kernel)) ggX6_fitsOf_X6_drifts
theorem dX6_fitsOf_0 : decode cX6_fitsOf 0 = .ok (.iconst 0, 1) := by decide +kernel
theorem dX6_fitsOf_1 : decode cX6_fitsOf 1 = .ok (.istore_n 1, 1) := by decide +kernel
theorem dX6_fitsOf_2 : decode cX6_fitsOf 2 = .ok (.iconst 0, 1) := by decide +kernel
theorem dX6_fitsOf_3 : decode cX6_fitsOf 3 = .ok (.istore_n 2, 1) := by decide +kernel
theorem dX6_fitsOf_4 : decode cX6_fitsOf 4 = .ok (.iload_n 2, 1) := by decide +kernel
theorem dX6_fitsOf_5 : decode cX6_fitsOf 5 = .ok (.iconst 5, 1) := by decide +kernel
theorem dX6_fitsOf_6 : decode cX6_fitsOf 6 = .ok (.if_icmp .ge 86, 3) := by decide +kernel
theorem dX6_fitsOf_9 : decode cX6_fitsOf 9 = .ok (.iconst 1, 1) := by decide +kernel
theorem dX6_fitsOf_10 : decode cX6_fitsOf 10 = .ok (.istore_n 3, 1) := by decide +kernel
theorem dX6_fitsOf_11 : decode cX6_fitsOf 11 = .ok (.iconst 1, 1) := by decide +kernel
theorem dX6_fitsOf_12 : decode cX6_fitsOf 12 = .ok (.istore 4, 2) := by decide +kernel
theorem dX6_fitsOf_14 : decode cX6_fitsOf 14 = .ok (.iload 4, 2) := by decide +kernel
theorem dX6_fitsOf_16 : decode cX6_fitsOf 16 = .ok (.aload_n 0, 1) := by decide +kernel
theorem dX6_fitsOf_17 : decode cX6_fitsOf 17 = .ok (.getfield 94, 3) := by decide +kernel
theorem dX6_fitsOf_20 : decode cX6_fitsOf 20 = .ok (.if_icmp .ge 52, 3) := by decide +kernel
theorem dX6_fitsOf_23 : decode cX6_fitsOf 23 = .ok (.iload_n 3, 1) := by decide +kernel
theorem dX6_fitsOf_24 : decode cX6_fitsOf 24 = .ok (.ifCond .eq 40, 3) := by decide +kernel
theorem dX6_fitsOf_27 : decode cX6_fitsOf 27 = .ok (.aload_n 0, 1) := by decide +kernel
theorem dX6_fitsOf_28 : decode cX6_fitsOf 28 = .ok (.iload_n 2, 1) := by decide +kernel
theorem dX6_fitsOf_29 : decode cX6_fitsOf 29 = .ok (.aload_n 0, 1) := by decide +kernel
theorem dX6_fitsOf_30 : decode cX6_fitsOf 30 = .ok (.getfield 31, 3) := by decide +kernel
theorem dX6_fitsOf_33 : decode cX6_fitsOf 33 = .ok (.iload 4, 2) := by decide +kernel
theorem dX6_fitsOf_35 : decode cX6_fitsOf 35 = .ok (.iconst 1, 1) := by decide +kernel
theorem dX6_fitsOf_36 : decode cX6_fitsOf 36 = .ok (.isub, 1) := by decide +kernel
theorem dX6_fitsOf_37 : decode cX6_fitsOf 37 = .ok (.iaload, 1) := by decide +kernel
theorem dX6_fitsOf_38 : decode cX6_fitsOf 38 = .ok (.aload_n 0, 1) := by decide +kernel
theorem dX6_fitsOf_39 : decode cX6_fitsOf 39 = .ok (.getfield 170, 3) := by decide +kernel
theorem dX6_fitsOf_42 : decode cX6_fitsOf 42 = .ok (.iload 4, 2) := by decide +kernel
theorem dX6_fitsOf_44 : decode cX6_fitsOf 44 = .ok (.iadd, 1) := by decide +kernel
theorem dX6_fitsOf_45 : decode cX6_fitsOf 45 = .ok (.iconst 1, 1) := by decide +kernel
theorem dX6_fitsOf_46 : decode cX6_fitsOf 46 = .ok (.isub, 1) := by decide +kernel
theorem dX6_fitsOf_47 : decode cX6_fitsOf 47 = .ok (.invokevirtual 130, 3) := by decide +kernel
theorem dX6_fitsOf_50 : decode cX6_fitsOf 50 = .ok (.aload_n 0, 1) := by decide +kernel
theorem dX6_fitsOf_51 : decode cX6_fitsOf 51 = .ok (.getfield 31, 3) := by decide +kernel
theorem dX6_fitsOf_54 : decode cX6_fitsOf 54 = .ok (.iload 4, 2) := by decide +kernel
theorem dX6_fitsOf_56 : decode cX6_fitsOf 56 = .ok (.iaload, 1) := by decide +kernel
theorem dX6_fitsOf_57 : decode cX6_fitsOf 57 = .ok (.if_icmp .ne 7, 3) := by decide +kernel
theorem dX6_fitsOf_60 : decode cX6_fitsOf 60 = .ok (.iconst 1, 1) := by decide +kernel
theorem dX6_fitsOf_61 : decode cX6_fitsOf 61 = .ok (.goto 4, 3) := by decide +kernel
theorem dX6_fitsOf_64 : decode cX6_fitsOf 64 = .ok (.iconst 0, 1) := by decide +kernel
theorem dX6_fitsOf_65 : decode cX6_fitsOf 65 = .ok (.istore_n 3, 1) := by decide +kernel
theorem dX6_fitsOf_66 : decode cX6_fitsOf 66 = .ok (.iinc 4 1, 3) := by decide +kernel
theorem dX6_fitsOf_69 : decode cX6_fitsOf 69 = .ok (.goto (-55), 3) := by decide +kernel
theorem dX6_fitsOf_72 : decode cX6_fitsOf 72 = .ok (.iload_n 1, 1) := by decide +kernel
theorem dX6_fitsOf_73 : decode cX6_fitsOf 73 = .ok (.iload_n 3, 1) := by decide +kernel
theorem dX6_fitsOf_74 : decode cX6_fitsOf 74 = .ok (.ifCond .eq 9, 3) := by decide +kernel
theorem dX6_fitsOf_77 : decode cX6_fitsOf 77 = .ok (.iconst 1, 1) := by decide +kernel
theorem dX6_fitsOf_78 : decode cX6_fitsOf 78 = .ok (.iload_n 2, 1) := by decide +kernel
theorem dX6_fitsOf_79 : decode cX6_fitsOf 79 = .ok (.ishl, 1) := by decide +kernel
theorem dX6_fitsOf_80 : decode cX6_fitsOf 80 = .ok (.goto 4, 3) := by decide +kernel
theorem dX6_fitsOf_83 : decode cX6_fitsOf 83 = .ok (.iconst 0, 1) := by decide +kernel
theorem dX6_fitsOf_84 : decode cX6_fitsOf 84 = .ok (.ior, 1) := by decide +kernel
theorem dX6_fitsOf_85 : decode cX6_fitsOf 85 = .ok (.istore_n 1, 1) := by decide +kernel
theorem dX6_fitsOf_86 : decode cX6_fitsOf 86 = .ok (.iinc 2 1, 3) := by decide +kernel
theorem dX6_fitsOf_89 : decode cX6_fitsOf 89 = .ok (.goto (-85), 3) := by decide +kernel
theorem dX6_fitsOf_92 : decode cX6_fitsOf 92 = .ok (.iload_n 1, 1) := by decide +kernel
theorem dX6_fitsOf_93 : decode cX6_fitsOf 93 = .ok (.ireturn, 1) := by decide +kernel
set_option maxRecDepth 20000 in
theorem ggX6_fits_X6_fitsOf : GoodIn wsX6_fits wsX6_fitsOf := goodIn_r _ [6, 1, 7, 8, 9, 10, 11, 5, 12, 13, 14, 15, 16, 17, 18, 19, 20, 21, 22, 23, 24, 25, 26, 27, 28, 29, 30, 31, 32, 33, 34, 35, 36, 37, 38, 39, 40, 41, 42, 43, 44, 45, 46, 47, 48, 49, 50, 51, 52, 53, 54, 55, 56, 57, 58, 59, 60] (by decide +kernel) (by decide +kernel)
set_option maxRecDepth 20000 in
theorem gX6_fits_X6_fitsOf : GoodIn wsX6_fits (wsV RX6 173 RX6 yX6_fitsOf wsX6_fitsOf) := goodIn_app (goodIn_of _ (by decide +kernel)) ggX6_fits_X6_fitsOf
theorem dX6_fits_0 : decode cX6_fits 0 = .ok (.aload_n 0, 1) := by decide +kernel
theorem dX6_fits_1 : decode cX6_fits 1 = .ok (.getfield 94, 3) := by decide +kernel
theorem dX6_fits_4 : decode cX6_fits 4 = .ok (.ifCond .ne 8, 3) := by decide +kernel
theorem dX6_fits_7 : decode cX6_fits 7 = .ok (.bipush (-103), 2) := by decide +kernel
theorem dX6_fits_9 : decode cX6_fits 9 = .ok (.goto 7, 3) := by decide +kernel
theorem dX6_fits_12 : decode cX6_fits 12 = .ok (.aload_n 0, 1) := by decide +kernel
theorem dX6_fits_13 : decode cX6_fits 13 = .ok (.invokevirtual 173, 3) := by decide +kernel
theorem dX6_fits_16 : decode cX6_fits 16 = .ok (.ireturn, 1) := by decide +kernel
theorem dX6_draw_0 : decode cX6_draw 0 = .ok (.aload_n 0, 1) := by decide +kernel
theorem dX6_draw_1 : decode cX6_draw 1 = .ok (.ldc2_w 176, 3) := by decide +kernel
theorem dX6_draw_4 : decode cX6_draw 4 = .ok (.aload_n 0, 1) := by decide +kernel
theorem dX6_draw_5 : decode cX6_draw 5 = .ok (.getfield 178, 3) := by decide +kernel
theorem dX6_draw_8 : decode cX6_draw 8 = .ok (.i2l, 1) := by decide +kernel
theorem dX6_draw_9 : decode cX6_draw 9 = .ok (.lmul, 1) := by decide +kernel
theorem dX6_draw_10 : decode cX6_draw 10 = .ok (.ldc2_w 181, 3) := by decide +kernel
theorem dX6_draw_13 : decode cX6_draw 13 = .ok (.ladd, 1) := by decide +kernel
theorem dX6_draw_14 : decode cX6_draw 14 = .ok (.ldc2_w 183, 3) := by decide +kernel
theorem dX6_draw_17 : decode cX6_draw 17 = .ok (.land, 1) := by decide +kernel
theorem dX6_draw_18 : decode cX6_draw 18 = .ok (.l2i, 1) := by decide +kernel
theorem dX6_draw_19 : decode cX6_draw 19 = .ok (.putfield 178, 3) := by decide +kernel
theorem dX6_draw_22 : decode cX6_draw 22 = .ok (.aload_n 0, 1) := by decide +kernel
theorem dX6_draw_23 : decode cX6_draw 23 = .ok (.getfield 178, 3) := by decide +kernel
theorem dX6_draw_26 : decode cX6_draw 26 = .ok (.ldc 185, 2) := by decide +kernel
theorem dX6_draw_28 : decode cX6_draw 28 = .ok (.idiv, 1) := by decide +kernel
theorem dX6_draw_29 : decode cX6_draw 29 = .ok (.iload_n 1, 1) := by decide +kernel
theorem dX6_draw_30 : decode cX6_draw 30 = .ok (.irem, 1) := by decide +kernel
theorem dX6_draw_31 : decode cX6_draw 31 = .ok (.ireturn, 1) := by decide +kernel
set_option maxRecDepth 20000 in
theorem ggX6_days_X6_in : GoodIn wsX6_days wsX6_in := goodIn_r _ [12] (by decide +kernel) (by decide +kernel)
set_option maxRecDepth 20000 in
theorem gX6_days_X6_in : GoodIn wsX6_days (va_wsS RX6 70 yX6_in wsX6_in) := goodIn_app (goodIn_of _ (by decide +kernel)) ggX6_days_X6_in
set_option maxRecDepth 20000 in
theorem ggX6_days_X6_lacks : GoodIn wsX6_days wsX6_lacks := goodIn_r _ [16, 17, 44, 45, 46, 47, 48, 49, 50, 51, 52, 53, 54, 55, 56, 57, 58, 59, 60, 61, 62, 63, 64, 65, 66, 67, 68, 69, 70, 71, 72, 73, 74, 75] (by decide +kernel) (by decide +kernel)
set_option maxRecDepth 20000 in
theorem gX6_days_X6_lacks : GoodIn wsX6_days (wsV RX6 122 RX6 yX6_lacks wsX6_lacks) := goodIn_app (goodIn_of _ (by decide +kernel)) ggX6_days_X6_lacks
set_option maxRecDepth 20000 in
theorem ggX6_days_X6_draw : GoodIn wsX6_days wsX6_draw := goodIn_r _ [21, 22, 6, 23, 24, 25, 44, 45, 46, 47, 48, 49, 50, 51, 52, 53, 54, 55, 56, 57, 58, 59, 60, 61, 62, 63, 64, 65, 66, 67, 68, 69, 70, 71, 72, 73, 74, 75] (by decide +kernel) (by decide +kernel)
set_option maxRecDepth 20000 in
theorem gX6_days_X6_draw : GoodIn wsX6_days (wsV RX6 188 RX6 yX6_draw wsX6_draw) := goodIn_app (goodIn_of _ (by decide +kernel)) ggX6_days_X6_draw
set_option maxRecDepth 20000 in
theorem ggX6_days_X6_isDry : GoodIn wsX6_days wsX6_isDry := goodIn_r _ [29, 30, 31, 32, 11, 33, 34, 17, 35, 36, 37, 38, 39, 44, 45, 46, 47, 48, 49, 50, 51, 52, 53, 54, 55, 56, 57, 58, 59, 60, 61, 62, 63, 64, 65, 66, 67, 68, 69, 70, 71, 72, 73, 74, 75] (by decide +kernel) (by decide +kernel)
set_option maxRecDepth 20000 in
theorem gX6_days_X6_isDry : GoodIn wsX6_days (wsV RX6 110 RX6 yX6_isDry wsX6_isDry) := goodIn_app (goodIn_of _ (by decide +kernel)) ggX6_days_X6_isDry
set_option maxRecDepth 20000 in
theorem ggX6_days_X6_drifts : GoodIn wsX6_days wsX6_drifts := goodIn_r _ [43, 8, 26, 27, 28, 11, 29, 30, 31, 32, 33, 34, 17, 35, 36, 37, 38, 39, 44, 45, 46, 47, 48, 49, 50, 51, 52, 53, 54, 55, 56, 57, 58, 59, 60, 61, 62, 63, 64, 65, 66, 67, 68, 69, 70, 71, 72, 73, 74, 75] (by decide +kernel) (by decide +kernel)
set_option maxRecDepth 20000 in
theorem gX6_days_X6_drifts : GoodIn wsX6_days (wsV RX6 130 RX6 yX6_drifts wsX6_drifts) := goodIn_app (goodIn_of _ (by decide +kernel)) ggX6_days_X6_drifts
theorem dX6_days_0 : decode cX6_days 0 = .ok (.iload_n 1, 1) := by decide +kernel
theorem dX6_days_1 : decode cX6_days 1 = .ok (.i2l, 1) := by decide +kernel
theorem dX6_days_2 : decode cX6_days 2 = .ok (.lconst 1, 1) := by decide +kernel
theorem dX6_days_3 : decode cX6_days 3 = .ok (.ldc2_w 186, 3) := by decide +kernel
theorem dX6_days_6 : decode cX6_days 6 = .ok (.invokestatic 70, 3) := by decide +kernel
theorem dX6_days_9 : decode cX6_days 9 = .ok (.ifCond .eq 19, 3) := by decide +kernel
theorem dX6_days_12 : decode cX6_days 12 = .ok (.iload_n 2, 1) := by decide +kernel
theorem dX6_days_13 : decode cX6_days 13 = .ok (.ifCond .lt 15, 3) := by decide +kernel
theorem dX6_days_16 : decode cX6_days 16 = .ok (.iload_n 3, 1) := by decide +kernel
theorem dX6_days_17 : decode cX6_days 17 = .ok (.i2l, 1) := by decide +kernel
theorem dX6_days_18 : decode cX6_days 18 = .ok (.lconst 0, 1) := by decide +kernel
theorem dX6_days_19 : decode cX6_days 19 = .ok (.ldc2_w 120, 3) := by decide +kernel
theorem dX6_days_22 : decode cX6_days 22 = .ok (.invokestatic 70, 3) := by decide +kernel
theorem dX6_days_25 : decode cX6_days 25 = .ok (.ifCond .ne 6, 3) := by decide +kernel
theorem dX6_days_28 : decode cX6_days 28 = .ok (.bipush (-102), 2) := by decide +kernel
theorem dX6_days_30 : decode cX6_days 30 = .ok (.ireturn, 1) := by decide +kernel
theorem dX6_days_31 : decode cX6_days 31 = .ok (.aload_n 0, 1) := by decide +kernel
theorem dX6_days_32 : decode cX6_days 32 = .ok (.invokevirtual 122, 3) := by decide +kernel
theorem dX6_days_35 : decode cX6_days 35 = .ok (.ifCond .eq 6, 3) := by decide +kernel
theorem dX6_days_38 : decode cX6_days 38 = .ok (.bipush (-103), 2) := by decide +kernel
theorem dX6_days_40 : decode cX6_days 40 = .ok (.ireturn, 1) := by decide +kernel
theorem dX6_days_41 : decode cX6_days 41 = .ok (.iconst 0, 1) := by decide +kernel
theorem dX6_days_42 : decode cX6_days 42 = .ok (.istore 4, 2) := by decide +kernel
theorem dX6_days_44 : decode cX6_days 44 = .ok (.iload 4, 2) := by decide +kernel
theorem dX6_days_46 : decode cX6_days 46 = .ok (.aload_n 0, 1) := by decide +kernel
theorem dX6_days_47 : decode cX6_days 47 = .ok (.getfield 91, 3) := by decide +kernel
theorem dX6_days_50 : decode cX6_days 50 = .ok (.if_icmp .ge 27, 3) := by decide +kernel
theorem dX6_days_53 : decode cX6_days 53 = .ok (.aload_n 0, 1) := by decide +kernel
theorem dX6_days_54 : decode cX6_days 54 = .ok (.getfield 34, 3) := by decide +kernel
theorem dX6_days_57 : decode cX6_days 57 = .ok (.iload 4, 2) := by decide +kernel
theorem dX6_days_59 : decode cX6_days 59 = .ok (.aload_n 0, 1) := by decide +kernel
theorem dX6_days_60 : decode cX6_days 60 = .ok (.getfield 25, 3) := by decide +kernel
theorem dX6_days_63 : decode cX6_days 63 = .ok (.iconst 4, 1) := by decide +kernel
theorem dX6_days_64 : decode cX6_days 64 = .ok (.iload 4, 2) := by decide +kernel
theorem dX6_days_66 : decode cX6_days 66 = .ok (.imul, 1) := by decide +kernel
theorem dX6_days_67 : decode cX6_days 67 = .ok (.iconst 1, 1) := by decide +kernel
theorem dX6_days_68 : decode cX6_days 68 = .ok (.iadd, 1) := by decide +kernel
theorem dX6_days_69 : decode cX6_days 69 = .ok (.iaload, 1) := by decide +kernel
theorem dX6_days_70 : decode cX6_days 70 = .ok (.iastore, 1) := by decide +kernel
theorem dX6_days_71 : decode cX6_days 71 = .ok (.iinc 4 1, 3) := by decide +kernel
theorem dX6_days_74 : decode cX6_days 74 = .ok (.goto (-30), 3) := by decide +kernel
theorem dX6_days_77 : decode cX6_days 77 = .ok (.aload_n 0, 1) := by decide +kernel
theorem dX6_days_78 : decode cX6_days 78 = .ok (.iload_n 2, 1) := by decide +kernel
theorem dX6_days_79 : decode cX6_days 79 = .ok (.putfield 178, 3) := by decide +kernel
theorem dX6_days_82 : decode cX6_days 82 = .ok (.iconst 0, 1) := by decide +kernel
theorem dX6_days_83 : decode cX6_days 83 = .ok (.istore 4, 2) := by decide +kernel
theorem dX6_days_85 : decode cX6_days 85 = .ok (.iload 4, 2) := by decide +kernel
theorem dX6_days_87 : decode cX6_days 87 = .ok (.iload_n 1, 1) := by decide +kernel
theorem dX6_days_88 : decode cX6_days 88 = .ok (.if_icmp .ge 139, 3) := by decide +kernel
theorem dX6_days_91 : decode cX6_days 91 = .ok (.aload_n 0, 1) := by decide +kernel
theorem dX6_days_92 : decode cX6_days 92 = .ok (.getfield 91, 3) := by decide +kernel
theorem dX6_days_95 : decode cX6_days 95 = .ok (.ifCond .le 74, 3) := by decide +kernel
theorem dX6_days_98 : decode cX6_days 98 = .ok (.aload_n 0, 1) := by decide +kernel
theorem dX6_days_99 : decode cX6_days 99 = .ok (.iconst 4, 1) := by decide +kernel
theorem dX6_days_100 : decode cX6_days 100 = .ok (.invokevirtual 188, 3) := by decide +kernel
theorem dX6_days_103 : decode cX6_days 103 = .ok (.ifCond .ne 66, 3) := by decide +kernel
theorem dX6_days_106 : decode cX6_days 106 = .ok (.aload_n 0, 1) := by decide +kernel
theorem dX6_days_107 : decode cX6_days 107 = .ok (.aload_n 0, 1) := by decide +kernel
theorem dX6_days_108 : decode cX6_days 108 = .ok (.getfield 91, 3) := by decide +kernel
theorem dX6_days_111 : decode cX6_days 111 = .ok (.invokevirtual 188, 3) := by decide +kernel
theorem dX6_days_114 : decode cX6_days 114 = .ok (.istore 5, 2) := by decide +kernel
theorem dX6_days_116 : decode cX6_days 116 = .ok (.aload_n 0, 1) := by decide +kernel
theorem dX6_days_117 : decode cX6_days 117 = .ok (.getfield 34, 3) := by decide +kernel
theorem dX6_days_120 : decode cX6_days 120 = .ok (.iload 5, 2) := by decide +kernel
theorem dX6_days_122 : decode cX6_days 122 = .ok (.aload_n 0, 1) := by decide +kernel
theorem dX6_days_123 : decode cX6_days 123 = .ok (.getfield 34, 3) := by decide +kernel
theorem dX6_days_126 : decode cX6_days 126 = .ok (.iload 5, 2) := by decide +kernel
theorem dX6_days_128 : decode cX6_days 128 = .ok (.iaload, 1) := by decide +kernel
theorem dX6_days_129 : decode cX6_days 129 = .ok (.ifCond .lt 32, 3) := by decide +kernel
theorem dX6_days_132 : decode cX6_days 132 = .ok (.aload_n 0, 1) := by decide +kernel
theorem dX6_days_133 : decode cX6_days 133 = .ok (.aload_n 0, 1) := by decide +kernel
theorem dX6_days_134 : decode cX6_days 134 = .ok (.getfield 34, 3) := by decide +kernel
theorem dX6_days_137 : decode cX6_days 137 = .ok (.iload 5, 2) := by decide +kernel
theorem dX6_days_139 : decode cX6_days 139 = .ok (.iaload, 1) := by decide +kernel
theorem dX6_days_140 : decode cX6_days 140 = .ok (.aload_n 0, 1) := by decide +kernel
theorem dX6_days_141 : decode cX6_days 141 = .ok (.getfield 88, 3) := by decide +kernel
theorem dX6_days_144 : decode cX6_days 144 = .ok (.iload 4, 2) := by decide +kernel
theorem dX6_days_146 : decode cX6_days 146 = .ok (.iadd, 1) := by decide +kernel
theorem dX6_days_147 : decode cX6_days 147 = .ok (.aload_n 0, 1) := by decide +kernel
theorem dX6_days_148 : decode cX6_days 148 = .ok (.getfield 47, 3) := by decide +kernel
theorem dX6_days_151 : decode cX6_days 151 = .ok (.invokevirtual 110, 3) := by decide +kernel
theorem dX6_days_154 : decode cX6_days 154 = .ok (.ifCond .eq 7, 3) := by decide +kernel
theorem dX6_days_157 : decode cX6_days 157 = .ok (.iconst (-1), 1) := by decide +kernel
theorem dX6_days_158 : decode cX6_days 158 = .ok (.goto 10, 3) := by decide +kernel
theorem dX6_days_161 : decode cX6_days 161 = .ok (.aload_n 0, 1) := by decide +kernel
theorem dX6_days_162 : decode cX6_days 162 = .ok (.getfield 34, 3) := by decide +kernel
theorem dX6_days_165 : decode cX6_days 165 = .ok (.iload 5, 2) := by decide +kernel
theorem dX6_days_167 : decode cX6_days 167 = .ok (.iaload, 1) := by decide +kernel
theorem dX6_days_168 : decode cX6_days 168 = .ok (.iastore, 1) := by decide +kernel
theorem dX6_days_169 : decode cX6_days 169 = .ok (.iconst 0, 1) := by decide +kernel
theorem dX6_days_170 : decode cX6_days 170 = .ok (.istore 5, 2) := by decide +kernel
theorem dX6_days_172 : decode cX6_days 172 = .ok (.iload 5, 2) := by decide +kernel
theorem dX6_days_174 : decode cX6_days 174 = .ok (.aload_n 0, 1) := by decide +kernel
theorem dX6_days_175 : decode cX6_days 175 = .ok (.getfield 91, 3) := by decide +kernel
theorem dX6_days_178 : decode cX6_days 178 = .ok (.if_icmp .ge 43, 3) := by decide +kernel
theorem dX6_days_181 : decode cX6_days 181 = .ok (.aload_n 0, 1) := by decide +kernel
theorem dX6_days_182 : decode cX6_days 182 = .ok (.getfield 34, 3) := by decide +kernel
theorem dX6_days_185 : decode cX6_days 185 = .ok (.iload 5, 2) := by decide +kernel
theorem dX6_days_187 : decode cX6_days 187 = .ok (.aload_n 0, 1) := by decide +kernel
theorem dX6_days_188 : decode cX6_days 188 = .ok (.aload_n 0, 1) := by decide +kernel
theorem dX6_days_189 : decode cX6_days 189 = .ok (.getfield 25, 3) := by decide +kernel
theorem dX6_days_192 : decode cX6_days 192 = .ok (.iconst 4, 1) := by decide +kernel
theorem dX6_days_193 : decode cX6_days 193 = .ok (.iload 5, 2) := by decide +kernel
theorem dX6_days_195 : decode cX6_days 195 = .ok (.imul, 1) := by decide +kernel
theorem dX6_days_196 : decode cX6_days 196 = .ok (.iaload, 1) := by decide +kernel
theorem dX6_days_197 : decode cX6_days 197 = .ok (.aload_n 0, 1) := by decide +kernel
theorem dX6_days_198 : decode cX6_days 198 = .ok (.getfield 34, 3) := by decide +kernel
theorem dX6_days_201 : decode cX6_days 201 = .ok (.iload 5, 2) := by decide +kernel
theorem dX6_days_203 : decode cX6_days 203 = .ok (.iaload, 1) := by decide +kernel
theorem dX6_days_204 : decode cX6_days 204 = .ok (.aload_n 0, 1) := by decide +kernel
theorem dX6_days_205 : decode cX6_days 205 = .ok (.getfield 88, 3) := by decide +kernel
theorem dX6_days_208 : decode cX6_days 208 = .ok (.iload 4, 2) := by decide +kernel
theorem dX6_days_210 : decode cX6_days 210 = .ok (.iadd, 1) := by decide +kernel
theorem dX6_days_211 : decode cX6_days 211 = .ok (.invokevirtual 130, 3) := by decide +kernel
theorem dX6_days_214 : decode cX6_days 214 = .ok (.iastore, 1) := by decide +kernel
theorem dX6_days_215 : decode cX6_days 215 = .ok (.iinc 5 1, 3) := by decide +kernel
theorem dX6_days_218 : decode cX6_days 218 = .ok (.goto (-46), 3) := by decide +kernel
theorem dX6_days_221 : decode cX6_days 221 = .ok (.iinc 4 1, 3) := by decide +kernel
theorem dX6_days_224 : decode cX6_days 224 = .ok (.goto (-139), 3) := by decide +kernel
theorem dX6_days_227 : decode cX6_days 227 = .ok (.iconst 0, 1) := by decide +kernel
theorem dX6_days_228 : decode cX6_days 228 = .ok (.istore 4, 2) := by decide +kernel
theorem dX6_days_230 : decode cX6_days 230 = .ok (.iconst 0, 1) := by decide +kernel
theorem dX6_days_231 : decode cX6_days 231 = .ok (.istore 5, 2) := by decide +kernel
theorem dX6_days_233 : decode cX6_days 233 = .ok (.iconst 0, 1) := by decide +kernel
theorem dX6_days_234 : decode cX6_days 234 = .ok (.istore 6, 2) := by decide +kernel
theorem dX6_days_236 : decode cX6_days 236 = .ok (.iconst 0, 1) := by decide +kernel
theorem dX6_days_237 : decode cX6_days 237 = .ok (.istore 7, 2) := by decide +kernel
theorem dX6_days_239 : decode cX6_days 239 = .ok (.iload 7, 2) := by decide +kernel
theorem dX6_days_241 : decode cX6_days 241 = .ok (.aload_n 0, 1) := by decide +kernel
theorem dX6_days_242 : decode cX6_days 242 = .ok (.getfield 91, 3) := by decide +kernel
theorem dX6_days_245 : decode cX6_days 245 = .ok (.if_icmp .ge 88, 3) := by decide +kernel
theorem dX6_days_248 : decode cX6_days 248 = .ok (.iload 4, 2) := by decide +kernel
theorem dX6_days_250 : decode cX6_days 250 = .ok (.aload_n 0, 1) := by decide +kernel
theorem dX6_days_251 : decode cX6_days 251 = .ok (.getfield 34, 3) := by decide +kernel
theorem dX6_days_254 : decode cX6_days 254 = .ok (.iload 7, 2) := by decide +kernel
theorem dX6_days_256 : decode cX6_days 256 = .ok (.iaload, 1) := by decide +kernel
theorem dX6_days_257 : decode cX6_days 257 = .ok (.iconst (-1), 1) := by decide +kernel
theorem dX6_days_258 : decode cX6_days 258 = .ok (.if_icmp .ne 17, 3) := by decide +kernel
theorem dX6_days_261 : decode cX6_days 261 = .ok (.aload_n 0, 1) := by decide +kernel
theorem dX6_days_262 : decode cX6_days 262 = .ok (.getfield 25, 3) := by decide +kernel
theorem dX6_days_265 : decode cX6_days 265 = .ok (.iconst 4, 1) := by decide +kernel
theorem dX6_days_266 : decode cX6_days 266 = .ok (.iload 7, 2) := by decide +kernel
theorem dX6_days_268 : decode cX6_days 268 = .ok (.imul, 1) := by decide +kernel
theorem dX6_days_269 : decode cX6_days 269 = .ok (.iconst 2, 1) := by decide +kernel
theorem dX6_days_270 : decode cX6_days 270 = .ok (.iadd, 1) := by decide +kernel
theorem dX6_days_271 : decode cX6_days 271 = .ok (.iaload, 1) := by decide +kernel
theorem dX6_days_272 : decode cX6_days 272 = .ok (.goto 4, 3) := by decide +kernel
theorem dX6_days_275 : decode cX6_days 275 = .ok (.iconst 0, 1) := by decide +kernel
theorem dX6_days_276 : decode cX6_days 276 = .ok (.iadd, 1) := by decide +kernel
theorem dX6_days_277 : decode cX6_days 277 = .ok (.istore 4, 2) := by decide +kernel
theorem dX6_days_279 : decode cX6_days 279 = .ok (.iload 5, 2) := by decide +kernel
theorem dX6_days_281 : decode cX6_days 281 = .ok (.aload_n 0, 1) := by decide +kernel
theorem dX6_days_282 : decode cX6_days 282 = .ok (.getfield 34, 3) := by decide +kernel
theorem dX6_days_285 : decode cX6_days 285 = .ok (.iload 7, 2) := by decide +kernel
theorem dX6_days_287 : decode cX6_days 287 = .ok (.iaload, 1) := by decide +kernel
theorem dX6_days_288 : decode cX6_days 288 = .ok (.bipush (-2), 2) := by decide +kernel
theorem dX6_days_290 : decode cX6_days 290 = .ok (.if_icmp .ne 7, 3) := by decide +kernel
theorem dX6_days_293 : decode cX6_days 293 = .ok (.iconst 1, 1) := by decide +kernel
theorem dX6_days_294 : decode cX6_days 294 = .ok (.goto 4, 3) := by decide +kernel
theorem dX6_days_297 : decode cX6_days 297 = .ok (.iconst 0, 1) := by decide +kernel
theorem dX6_days_298 : decode cX6_days 298 = .ok (.iadd, 1) := by decide +kernel
theorem dX6_days_299 : decode cX6_days 299 = .ok (.istore 5, 2) := by decide +kernel
theorem dX6_days_301 : decode cX6_days 301 = .ok (.iload 6, 2) := by decide +kernel
theorem dX6_days_303 : decode cX6_days 303 = .ok (.aload_n 0, 1) := by decide +kernel
theorem dX6_days_304 : decode cX6_days 304 = .ok (.getfield 34, 3) := by decide +kernel
theorem dX6_days_307 : decode cX6_days 307 = .ok (.iload 7, 2) := by decide +kernel
theorem dX6_days_309 : decode cX6_days 309 = .ok (.iaload, 1) := by decide +kernel
theorem dX6_days_310 : decode cX6_days 310 = .ok (.ifCond .lt 13, 3) := by decide +kernel
theorem dX6_days_313 : decode cX6_days 313 = .ok (.aload_n 0, 1) := by decide +kernel
theorem dX6_days_314 : decode cX6_days 314 = .ok (.getfield 34, 3) := by decide +kernel
theorem dX6_days_317 : decode cX6_days 317 = .ok (.iload 7, 2) := by decide +kernel
theorem dX6_days_319 : decode cX6_days 319 = .ok (.iaload, 1) := by decide +kernel
theorem dX6_days_320 : decode cX6_days 320 = .ok (.goto 4, 3) := by decide +kernel
theorem dX6_days_323 : decode cX6_days 323 = .ok (.iconst 0, 1) := by decide +kernel
theorem dX6_days_324 : decode cX6_days 324 = .ok (.iadd, 1) := by decide +kernel
theorem dX6_days_325 : decode cX6_days 325 = .ok (.istore 6, 2) := by decide +kernel
theorem dX6_days_327 : decode cX6_days 327 = .ok (.iinc 7 1, 3) := by decide +kernel
theorem dX6_days_330 : decode cX6_days 330 = .ok (.goto (-91), 3) := by decide +kernel
theorem dX6_days_333 : decode cX6_days 333 = .ok (.iload_n 3, 1) := by decide +kernel
theorem dX6_days_334 : decode cX6_days 334 = .ok (.ifCond .ne 8, 3) := by decide +kernel
theorem dX6_days_337 : decode cX6_days 337 = .ok (.iload 4, 2) := by decide +kernel
theorem dX6_days_339 : decode cX6_days 339 = .ok (.goto 27, 3) := by decide +kernel
theorem dX6_days_342 : decode cX6_days 342 = .ok (.iload_n 3, 1) := by decide +kernel
theorem dX6_days_343 : decode cX6_days 343 = .ok (.iconst 1, 1) := by decide +kernel
theorem dX6_days_344 : decode cX6_days 344 = .ok (.if_icmp .ne 8, 3) := by decide +kernel
theorem dX6_days_347 : decode cX6_days 347 = .ok (.iload 5, 2) := by decide +kernel
theorem dX6_days_349 : decode cX6_days 349 = .ok (.goto 17, 3) := by decide +kernel
theorem dX6_days_352 : decode cX6_days 352 = .ok (.iload_n 3, 1) := by decide +kernel
theorem dX6_days_353 : decode cX6_days 353 = .ok (.iconst 2, 1) := by decide +kernel
theorem dX6_days_354 : decode cX6_days 354 = .ok (.if_icmp .ne 8, 3) := by decide +kernel
theorem dX6_days_357 : decode cX6_days 357 = .ok (.iload 6, 2) := by decide +kernel
theorem dX6_days_359 : decode cX6_days 359 = .ok (.goto 7, 3) := by decide +kernel
theorem dX6_days_362 : decode cX6_days 362 = .ok (.aload_n 0, 1) := by decide +kernel
theorem dX6_days_363 : decode cX6_days 363 = .ok (.getfield 178, 3) := by decide +kernel
theorem dX6_days_366 : decode cX6_days 366 = .ok (.ireturn, 1) := by decide +kernel
theorem dX6_copy_0 : decode cX6_copy 0 = .ok (.iconst 0, 1) := by decide +kernel
theorem dX6_copy_1 : decode cX6_copy 1 = .ok (.istore_n 2, 1) := by decide +kernel
theorem dX6_copy_2 : decode cX6_copy 2 = .ok (.iload_n 2, 1) := by decide +kernel
theorem dX6_copy_3 : decode cX6_copy 3 = .ok (.aload_n 0, 1) := by decide +kernel
theorem dX6_copy_4 : decode cX6_copy 4 = .ok (.arraylength, 1) := by decide +kernel
theorem dX6_copy_5 : decode cX6_copy 5 = .ok (.if_icmp .ge 15, 3) := by decide +kernel
theorem dX6_copy_8 : decode cX6_copy 8 = .ok (.aload_n 1, 1) := by decide +kernel
theorem dX6_copy_9 : decode cX6_copy 9 = .ok (.iload_n 2, 1) := by decide +kernel
theorem dX6_copy_10 : decode cX6_copy 10 = .ok (.aload_n 0, 1) := by decide +kernel
theorem dX6_copy_11 : decode cX6_copy 11 = .ok (.iload_n 2, 1) := by decide +kernel
theorem dX6_copy_12 : decode cX6_copy 12 = .ok (.iaload, 1) := by decide +kernel
theorem dX6_copy_13 : decode cX6_copy 13 = .ok (.iastore, 1) := by decide +kernel
theorem dX6_copy_14 : decode cX6_copy 14 = .ok (.iinc 2 1, 3) := by decide +kernel
theorem dX6_copy_17 : decode cX6_copy 17 = .ok (.goto (-15), 3) := by decide +kernel
theorem dX6_copy_20 : decode cX6_copy 20 = .ok (.return_, 1) := by decide +kernel
set_option maxRecDepth 20000 in
theorem ggX6_image_X6_lacks : GoodIn wsX6_image wsX6_lacks := goodIn_r _ [21, 22, 26, 27, 28, 29, 30, 31, 32, 33, 34, 35, 36, 37, 38, 39, 40, 41, 42, 43, 44, 45, 46, 47, 48, 49, 50, 51, 52, 53, 54, 55, 56, 57] (by decide +kernel) (by decide +kernel)
set_option maxRecDepth 20000 in
theorem gX6_image_X6_lacks : GoodIn wsX6_image (wsV RX6 122 RX6 yX6_lacks wsX6_lacks) := goodIn_app (goodIn_of _ (by decide +kernel)) ggX6_image_X6_lacks
set_option maxRecDepth 20000 in
theorem ggX6_image_X6_copy : GoodIn wsX6_image wsX6_copy := goodIn_r _ [25] (by decide +kernel) (by decide +kernel)
set_option maxRecDepth 20000 in
theorem gX6_image_X6_copy : GoodIn wsX6_image (va_wsS RX6 191 yX6_copy wsX6_copy) := goodIn_app (goodIn_of _ (by decide +kernel)) ggX6_image_X6_copy
theorem dX6_image_0 : decode cX6_image 0 = .ok (.aload_n 0, 1) := by decide +kernel
theorem dX6_image_1 : decode cX6_image 1 = .ok (.invokevirtual 122, 3) := by decide +kernel
theorem dX6_image_4 : decode cX6_image 4 = .ok (.ifCond .eq 6, 3) := by decide +kernel
theorem dX6_image_7 : decode cX6_image 7 = .ok (.bipush (-103), 2) := by decide +kernel
theorem dX6_image_9 : decode cX6_image 9 = .ok (.ireturn, 1) := by decide +kernel
theorem dX6_image_10 : decode cX6_image 10 = .ok (.aload_n 0, 1) := by decide +kernel
theorem dX6_image_11 : decode cX6_image 11 = .ok (.getfield 25, 3) := by decide +kernel
theorem dX6_image_14 : decode cX6_image 14 = .ok (.aload_n 0, 1) := by decide +kernel
theorem dX6_image_15 : decode cX6_image 15 = .ok (.getfield 37, 3) := by decide +kernel
theorem dX6_image_18 : decode cX6_image 18 = .ok (.invokestatic 191, 3) := by decide +kernel
theorem dX6_image_21 : decode cX6_image 21 = .ok (.aload_n 0, 1) := by decide +kernel
theorem dX6_image_22 : decode cX6_image 22 = .ok (.getfield 31, 3) := by decide +kernel
theorem dX6_image_25 : decode cX6_image 25 = .ok (.aload_n 0, 1) := by decide +kernel
theorem dX6_image_26 : decode cX6_image 26 = .ok (.getfield 40, 3) := by decide +kernel
theorem dX6_image_29 : decode cX6_image 29 = .ok (.invokestatic 191, 3) := by decide +kernel
theorem dX6_image_32 : decode cX6_image 32 = .ok (.aload_n 0, 1) := by decide +kernel
theorem dX6_image_33 : decode cX6_image 33 = .ok (.aload_n 0, 1) := by decide +kernel
theorem dX6_image_34 : decode cX6_image 34 = .ok (.getfield 91, 3) := by decide +kernel
theorem dX6_image_37 : decode cX6_image 37 = .ok (.putfield 195, 3) := by decide +kernel
theorem dX6_image_40 : decode cX6_image 40 = .ok (.aload_n 0, 1) := by decide +kernel
theorem dX6_image_41 : decode cX6_image 41 = .ok (.aload_n 0, 1) := by decide +kernel
theorem dX6_image_42 : decode cX6_image 42 = .ok (.getfield 47, 3) := by decide +kernel
theorem dX6_image_45 : decode cX6_image 45 = .ok (.putfield 198, 3) := by decide +kernel
theorem dX6_image_48 : decode cX6_image 48 = .ok (.aload_n 0, 1) := by decide +kernel
theorem dX6_image_49 : decode cX6_image 49 = .ok (.aload_n 0, 1) := by decide +kernel
theorem dX6_image_50 : decode cX6_image 50 = .ok (.getfield 88, 3) := by decide +kernel
theorem dX6_image_53 : decode cX6_image 53 = .ok (.putfield 201, 3) := by decide +kernel
theorem dX6_image_56 : decode cX6_image 56 = .ok (.aload_n 0, 1) := by decide +kernel
theorem dX6_image_57 : decode cX6_image 57 = .ok (.aload_n 0, 1) := by decide +kernel
theorem dX6_image_58 : decode cX6_image 58 = .ok (.getfield 170, 3) := by decide +kernel
theorem dX6_image_61 : decode cX6_image 61 = .ok (.putfield 204, 3) := by decide +kernel
theorem dX6_image_64 : decode cX6_image 64 = .ok (.aload_n 0, 1) := by decide +kernel
theorem dX6_image_65 : decode cX6_image 65 = .ok (.aload_n 0, 1) := by decide +kernel
theorem dX6_image_66 : decode cX6_image 66 = .ok (.getfield 94, 3) := by decide +kernel
theorem dX6_image_69 : decode cX6_image 69 = .ok (.putfield 207, 3) := by decide +kernel
theorem dX6_image_72 : decode cX6_image 72 = .ok (.aload_n 0, 1) := by decide +kernel
theorem dX6_image_73 : decode cX6_image 73 = .ok (.aload_n 0, 1) := by decide +kernel
theorem dX6_image_74 : decode cX6_image 74 = .ok (.getfield 97, 3) := by decide +kernel
theorem dX6_image_77 : decode cX6_image 77 = .ok (.putfield 43, 3) := by decide +kernel
theorem dX6_image_80 : decode cX6_image 80 = .ok (.aload_n 0, 1) := by decide +kernel
theorem dX6_image_81 : decode cX6_image 81 = .ok (.getfield 88, 3) := by decide +kernel
theorem dX6_image_84 : decode cX6_image 84 = .ok (.ireturn, 1) := by decide +kernel
set_option maxRecDepth 20000 in
theorem ggX6_restore_X6_copy : GoodIn wsX6_restore wsX6_copy := goodIn_r _ [20] (by decide +kernel) (by decide +kernel)
set_option maxRecDepth 20000 in
theorem gX6_restore_X6_copy : GoodIn wsX6_restore (va_wsS RX6 191 yX6_copy wsX6_copy) := goodIn_app (goodIn_of _ (by decide +kernel)) ggX6_restore_X6_copy
theorem dX6_restore_0 : decode cX6_restore 0 = .ok (.aload_n 0, 1) := by decide +kernel
theorem dX6_restore_1 : decode cX6_restore 1 = .ok (.getfield 43, 3) := by decide +kernel
theorem dX6_restore_4 : decode cX6_restore 4 = .ok (.aload_n 0, 1) := by decide +kernel
theorem dX6_restore_5 : decode cX6_restore 5 = .ok (.getfield 97, 3) := by decide +kernel
theorem dX6_restore_8 : decode cX6_restore 8 = .ok (.if_icmp .ne 14, 3) := by decide +kernel
theorem dX6_restore_11 : decode cX6_restore 11 = .ok (.aload_n 0, 1) := by decide +kernel
theorem dX6_restore_12 : decode cX6_restore 12 = .ok (.getfield 195, 3) := by decide +kernel
theorem dX6_restore_15 : decode cX6_restore 15 = .ok (.aload_n 0, 1) := by decide +kernel
theorem dX6_restore_16 : decode cX6_restore 16 = .ok (.getfield 91, 3) := by decide +kernel
theorem dX6_restore_19 : decode cX6_restore 19 = .ok (.if_icmp .eq 6, 3) := by decide +kernel
theorem dX6_restore_22 : decode cX6_restore 22 = .ok (.bipush (-103), 2) := by decide +kernel
theorem dX6_restore_24 : decode cX6_restore 24 = .ok (.ireturn, 1) := by decide +kernel
theorem dX6_restore_25 : decode cX6_restore 25 = .ok (.aload_n 0, 1) := by decide +kernel
theorem dX6_restore_26 : decode cX6_restore 26 = .ok (.getfield 37, 3) := by decide +kernel
theorem dX6_restore_29 : decode cX6_restore 29 = .ok (.aload_n 0, 1) := by decide +kernel
theorem dX6_restore_30 : decode cX6_restore 30 = .ok (.getfield 25, 3) := by decide +kernel
theorem dX6_restore_33 : decode cX6_restore 33 = .ok (.invokestatic 191, 3) := by decide +kernel
theorem dX6_restore_36 : decode cX6_restore 36 = .ok (.aload_n 0, 1) := by decide +kernel
theorem dX6_restore_37 : decode cX6_restore 37 = .ok (.getfield 40, 3) := by decide +kernel
theorem dX6_restore_40 : decode cX6_restore 40 = .ok (.aload_n 0, 1) := by decide +kernel
theorem dX6_restore_41 : decode cX6_restore 41 = .ok (.getfield 31, 3) := by decide +kernel
theorem dX6_restore_44 : decode cX6_restore 44 = .ok (.invokestatic 191, 3) := by decide +kernel
theorem dX6_restore_47 : decode cX6_restore 47 = .ok (.aload_n 0, 1) := by decide +kernel
theorem dX6_restore_48 : decode cX6_restore 48 = .ok (.aload_n 0, 1) := by decide +kernel
theorem dX6_restore_49 : decode cX6_restore 49 = .ok (.getfield 198, 3) := by decide +kernel
theorem dX6_restore_52 : decode cX6_restore 52 = .ok (.putfield 47, 3) := by decide +kernel
theorem dX6_restore_55 : decode cX6_restore 55 = .ok (.aload_n 0, 1) := by decide +kernel
theorem dX6_restore_56 : decode cX6_restore 56 = .ok (.aload_n 0, 1) := by decide +kernel
theorem dX6_restore_57 : decode cX6_restore 57 = .ok (.getfield 201, 3) := by decide +kernel
theorem dX6_restore_60 : decode cX6_restore 60 = .ok (.putfield 88, 3) := by decide +kernel
theorem dX6_restore_63 : decode cX6_restore 63 = .ok (.aload_n 0, 1) := by decide +kernel
theorem dX6_restore_64 : decode cX6_restore 64 = .ok (.aload_n 0, 1) := by decide +kernel
theorem dX6_restore_65 : decode cX6_restore 65 = .ok (.getfield 204, 3) := by decide +kernel
theorem dX6_restore_68 : decode cX6_restore 68 = .ok (.putfield 170, 3) := by decide +kernel
theorem dX6_restore_71 : decode cX6_restore 71 = .ok (.aload_n 0, 1) := by decide +kernel
theorem dX6_restore_72 : decode cX6_restore 72 = .ok (.aload_n 0, 1) := by decide +kernel
theorem dX6_restore_73 : decode cX6_restore 73 = .ok (.getfield 207, 3) := by decide +kernel
theorem dX6_restore_76 : decode cX6_restore 76 = .ok (.putfield 94, 3) := by decide +kernel
theorem dX6_restore_79 : decode cX6_restore 79 = .ok (.aload_n 0, 1) := by decide +kernel
theorem dX6_restore_80 : decode cX6_restore 80 = .ok (.getfield 88, 3) := by decide +kernel
theorem dX6_restore_83 : decode cX6_restore 83 = .ok (.ireturn, 1) := by decide +kernel
theorem dX6_countOf_0 : decode cX6_countOf 0 = .ok (.iconst 0, 1) := by decide +kernel
theorem dX6_countOf_1 : decode cX6_countOf 1 = .ok (.istore_n 2, 1) := by decide +kernel
theorem dX6_countOf_2 : decode cX6_countOf 2 = .ok (.iconst 0, 1) := by decide +kernel
theorem dX6_countOf_3 : decode cX6_countOf 3 = .ok (.istore_n 3, 1) := by decide +kernel
theorem dX6_countOf_4 : decode cX6_countOf 4 = .ok (.iconst 0, 1) := by decide +kernel
theorem dX6_countOf_5 : decode cX6_countOf 5 = .ok (.istore 4, 2) := by decide +kernel
theorem dX6_countOf_7 : decode cX6_countOf 7 = .ok (.iconst 0, 1) := by decide +kernel
theorem dX6_countOf_8 : decode cX6_countOf 8 = .ok (.istore 5, 2) := by decide +kernel
theorem dX6_countOf_10 : decode cX6_countOf 10 = .ok (.iload 5, 2) := by decide +kernel
theorem dX6_countOf_12 : decode cX6_countOf 12 = .ok (.aload_n 0, 1) := by decide +kernel
theorem dX6_countOf_13 : decode cX6_countOf 13 = .ok (.getfield 91, 3) := by decide +kernel
theorem dX6_countOf_16 : decode cX6_countOf 16 = .ok (.if_icmp .ge 64, 3) := by decide +kernel
theorem dX6_countOf_19 : decode cX6_countOf 19 = .ok (.iload_n 2, 1) := by decide +kernel
theorem dX6_countOf_20 : decode cX6_countOf 20 = .ok (.aload_n 0, 1) := by decide +kernel
theorem dX6_countOf_21 : decode cX6_countOf 21 = .ok (.getfield 25, 3) := by decide +kernel
theorem dX6_countOf_24 : decode cX6_countOf 24 = .ok (.iconst 4, 1) := by decide +kernel
theorem dX6_countOf_25 : decode cX6_countOf 25 = .ok (.iload 5, 2) := by decide +kernel
theorem dX6_countOf_27 : decode cX6_countOf 27 = .ok (.imul, 1) := by decide +kernel
theorem dX6_countOf_28 : decode cX6_countOf 28 = .ok (.iconst 1, 1) := by decide +kernel
theorem dX6_countOf_29 : decode cX6_countOf 29 = .ok (.iadd, 1) := by decide +kernel
theorem dX6_countOf_30 : decode cX6_countOf 30 = .ok (.iaload, 1) := by decide +kernel
theorem dX6_countOf_31 : decode cX6_countOf 31 = .ok (.ifCond .lt 7, 3) := by decide +kernel
theorem dX6_countOf_34 : decode cX6_countOf 34 = .ok (.iconst 1, 1) := by decide +kernel
theorem dX6_countOf_35 : decode cX6_countOf 35 = .ok (.goto 4, 3) := by decide +kernel
theorem dX6_countOf_38 : decode cX6_countOf 38 = .ok (.iconst 0, 1) := by decide +kernel
theorem dX6_countOf_39 : decode cX6_countOf 39 = .ok (.iadd, 1) := by decide +kernel
theorem dX6_countOf_40 : decode cX6_countOf 40 = .ok (.istore_n 2, 1) := by decide +kernel
theorem dX6_countOf_41 : decode cX6_countOf 41 = .ok (.iload_n 3, 1) := by decide +kernel
theorem dX6_countOf_42 : decode cX6_countOf 42 = .ok (.aload_n 0, 1) := by decide +kernel
theorem dX6_countOf_43 : decode cX6_countOf 43 = .ok (.getfield 25, 3) := by decide +kernel
theorem dX6_countOf_46 : decode cX6_countOf 46 = .ok (.iconst 4, 1) := by decide +kernel
theorem dX6_countOf_47 : decode cX6_countOf 47 = .ok (.iload 5, 2) := by decide +kernel
theorem dX6_countOf_49 : decode cX6_countOf 49 = .ok (.imul, 1) := by decide +kernel
theorem dX6_countOf_50 : decode cX6_countOf 50 = .ok (.iconst 1, 1) := by decide +kernel
theorem dX6_countOf_51 : decode cX6_countOf 51 = .ok (.iadd, 1) := by decide +kernel
theorem dX6_countOf_52 : decode cX6_countOf 52 = .ok (.iaload, 1) := by decide +kernel
theorem dX6_countOf_53 : decode cX6_countOf 53 = .ok (.iconst (-1), 1) := by decide +kernel
theorem dX6_countOf_54 : decode cX6_countOf 54 = .ok (.if_icmp .ne 17, 3) := by decide +kernel
theorem dX6_countOf_57 : decode cX6_countOf 57 = .ok (.aload_n 0, 1) := by decide +kernel
theorem dX6_countOf_58 : decode cX6_countOf 58 = .ok (.getfield 25, 3) := by decide +kernel
theorem dX6_countOf_61 : decode cX6_countOf 61 = .ok (.iconst 4, 1) := by decide +kernel
theorem dX6_countOf_62 : decode cX6_countOf 62 = .ok (.iload 5, 2) := by decide +kernel
theorem dX6_countOf_64 : decode cX6_countOf 64 = .ok (.imul, 1) := by decide +kernel
theorem dX6_countOf_65 : decode cX6_countOf 65 = .ok (.iconst 2, 1) := by decide +kernel
theorem dX6_countOf_66 : decode cX6_countOf 66 = .ok (.iadd, 1) := by decide +kernel
theorem dX6_countOf_67 : decode cX6_countOf 67 = .ok (.iaload, 1) := by decide +kernel
theorem dX6_countOf_68 : decode cX6_countOf 68 = .ok (.goto 4, 3) := by decide +kernel
theorem dX6_countOf_71 : decode cX6_countOf 71 = .ok (.iconst 0, 1) := by decide +kernel
theorem dX6_countOf_72 : decode cX6_countOf 72 = .ok (.iadd, 1) := by decide +kernel
theorem dX6_countOf_73 : decode cX6_countOf 73 = .ok (.istore_n 3, 1) := by decide +kernel
theorem dX6_countOf_74 : decode cX6_countOf 74 = .ok (.iinc 5 1, 3) := by decide +kernel
theorem dX6_countOf_77 : decode cX6_countOf 77 = .ok (.goto (-67), 3) := by decide +kernel
theorem dX6_countOf_80 : decode cX6_countOf 80 = .ok (.iconst 0, 1) := by decide +kernel
theorem dX6_countOf_81 : decode cX6_countOf 81 = .ok (.istore 5, 2) := by decide +kernel
theorem dX6_countOf_83 : decode cX6_countOf 83 = .ok (.iload 5, 2) := by decide +kernel
theorem dX6_countOf_85 : decode cX6_countOf 85 = .ok (.bipush 8, 2) := by decide +kernel
theorem dX6_countOf_87 : decode cX6_countOf 87 = .ok (.if_icmp .ge 23, 3) := by decide +kernel
theorem dX6_countOf_90 : decode cX6_countOf 90 = .ok (.iload 4, 2) := by decide +kernel
theorem dX6_countOf_92 : decode cX6_countOf 92 = .ok (.aload_n 0, 1) := by decide +kernel
theorem dX6_countOf_93 : decode cX6_countOf 93 = .ok (.getfield 85, 3) := by decide +kernel
theorem dX6_countOf_96 : decode cX6_countOf 96 = .ok (.iload 5, 2) := by decide +kernel
theorem dX6_countOf_98 : decode cX6_countOf 98 = .ok (.ishr, 1) := by decide +kernel
theorem dX6_countOf_99 : decode cX6_countOf 99 = .ok (.iconst 1, 1) := by decide +kernel
theorem dX6_countOf_100 : decode cX6_countOf 100 = .ok (.iand, 1) := by decide +kernel
theorem dX6_countOf_101 : decode cX6_countOf 101 = .ok (.iadd, 1) := by decide +kernel
theorem dX6_countOf_102 : decode cX6_countOf 102 = .ok (.istore 4, 2) := by decide +kernel
theorem dX6_countOf_104 : decode cX6_countOf 104 = .ok (.iinc 5 1, 3) := by decide +kernel
theorem dX6_countOf_107 : decode cX6_countOf 107 = .ok (.goto (-24), 3) := by decide +kernel
theorem dX6_countOf_110 : decode cX6_countOf 110 = .ok (.iload_n 1, 1) := by decide +kernel
theorem dX6_countOf_111 : decode cX6_countOf 111 = .ok (.tableswitch 95 0 9 #[53, 58, 63, 66, 71, 73, 75, 80, 85, 90], 53) := by decide +kernel
theorem dX6_countOf_164 : decode cX6_countOf 164 = .ok (.aload_n 0, 1) := by decide +kernel
theorem dX6_countOf_165 : decode cX6_countOf 165 = .ok (.getfield 91, 3) := by decide +kernel
theorem dX6_countOf_168 : decode cX6_countOf 168 = .ok (.ireturn, 1) := by decide +kernel
theorem dX6_countOf_169 : decode cX6_countOf 169 = .ok (.aload_n 0, 1) := by decide +kernel
theorem dX6_countOf_170 : decode cX6_countOf 170 = .ok (.getfield 88, 3) := by decide +kernel
theorem dX6_countOf_173 : decode cX6_countOf 173 = .ok (.ireturn, 1) := by decide +kernel
theorem dX6_countOf_174 : decode cX6_countOf 174 = .ok (.iload 4, 2) := by decide +kernel
theorem dX6_countOf_176 : decode cX6_countOf 176 = .ok (.ireturn, 1) := by decide +kernel
theorem dX6_countOf_177 : decode cX6_countOf 177 = .ok (.aload_n 0, 1) := by decide +kernel
theorem dX6_countOf_178 : decode cX6_countOf 178 = .ok (.getfield 82, 3) := by decide +kernel
theorem dX6_countOf_181 : decode cX6_countOf 181 = .ok (.ireturn, 1) := by decide +kernel
theorem dX6_countOf_182 : decode cX6_countOf 182 = .ok (.iload_n 2, 1) := by decide +kernel
theorem dX6_countOf_183 : decode cX6_countOf 183 = .ok (.ireturn, 1) := by decide +kernel
theorem dX6_countOf_184 : decode cX6_countOf 184 = .ok (.iload_n 3, 1) := by decide +kernel
theorem dX6_countOf_185 : decode cX6_countOf 185 = .ok (.ireturn, 1) := by decide +kernel
theorem dX6_countOf_186 : decode cX6_countOf 186 = .ok (.aload_n 0, 1) := by decide +kernel
theorem dX6_countOf_187 : decode cX6_countOf 187 = .ok (.getfield 94, 3) := by decide +kernel
theorem dX6_countOf_190 : decode cX6_countOf 190 = .ok (.ireturn, 1) := by decide +kernel
theorem dX6_countOf_191 : decode cX6_countOf 191 = .ok (.aload_n 0, 1) := by decide +kernel
theorem dX6_countOf_192 : decode cX6_countOf 192 = .ok (.getfield 52, 3) := by decide +kernel
theorem dX6_countOf_195 : decode cX6_countOf 195 = .ok (.ireturn, 1) := by decide +kernel
theorem dX6_countOf_196 : decode cX6_countOf 196 = .ok (.aload_n 0, 1) := by decide +kernel
theorem dX6_countOf_197 : decode cX6_countOf 197 = .ok (.getfield 97, 3) := by decide +kernel
theorem dX6_countOf_200 : decode cX6_countOf 200 = .ok (.ireturn, 1) := by decide +kernel
theorem dX6_countOf_201 : decode cX6_countOf 201 = .ok (.aload_n 0, 1) := by decide +kernel
theorem dX6_countOf_202 : decode cX6_countOf 202 = .ok (.getfield 155, 3) := by decide +kernel
theorem dX6_countOf_205 : decode cX6_countOf 205 = .ok (.ireturn, 1) := by decide +kernel
theorem dX6_countOf_206 : decode cX6_countOf 206 = .ok (.bipush (-102), 2) := by decide +kernel
theorem dX6_countOf_208 : decode cX6_countOf 208 = .ok (.ireturn, 1) := by decide +kernel
set_option maxRecDepth 20000 in
theorem ggX6_count_X6_countOf : GoodIn wsX6_count wsX6_countOf := goodIn_r _ [5, 6, 7, 8, 9, 10, 11, 12, 13, 14, 15, 16, 17, 18, 19, 20, 21, 22, 23, 24, 25, 26, 27, 28, 29, 30, 31, 32, 33, 34, 35, 36, 37, 38, 39, 40, 41, 42, 43, 44, 45, 46] (by decide +kernel) (by decide +kernel)
set_option maxRecDepth 20000 in
theorem gX6_count_X6_countOf : GoodIn wsX6_count (wsV RX6 210 RX6 yX6_countOf wsX6_countOf) := goodIn_app (goodIn_of _ (by decide +kernel)) ggX6_count_X6_countOf
theorem dX6_count_0 : decode cX6_count 0 = .ok (.aload_n 0, 1) := by decide +kernel
theorem dX6_count_1 : decode cX6_count 1 = .ok (.iload_n 1, 1) := by decide +kernel
theorem dX6_count_2 : decode cX6_count 2 = .ok (.invokevirtual 210, 3) := by decide +kernel
theorem dX6_count_5 : decode cX6_count 5 = .ok (.ireturn, 1) := by decide +kernel
theorem dX6_say_0 : decode cX6_say 0 = .ok (.aload_n 0, 1) := by decide +kernel
theorem dX6_say_1 : decode cX6_say 1 = .ok (.ldc2_w 213, 3) := by decide +kernel
theorem dX6_say_4 : decode cX6_say 4 = .ok (.aload_n 0, 1) := by decide +kernel
theorem dX6_say_5 : decode cX6_say 5 = .ok (.getfield 215, 3) := by decide +kernel
theorem dX6_say_8 : decode cX6_say 8 = .ok (.lmul, 1) := by decide +kernel
theorem dX6_say_9 : decode cX6_say 9 = .ok (.lload_n 1, 1) := by decide +kernel
theorem dX6_say_10 : decode cX6_say 10 = .ok (.ladd, 1) := by decide +kernel
theorem dX6_say_11 : decode cX6_say 11 = .ok (.putfield 215, 3) := by decide +kernel
theorem dX6_say_14 : decode cX6_say 14 = .ok (.return_, 1) := by decide +kernel
set_option maxRecDepth 20000 in
theorem ggX6_digest_X6_lacks : GoodIn wsX6_digest wsX6_lacks := goodIn_r _ [14, 3, 82, 83, 84, 85, 86, 87, 88, 89, 90, 91, 92, 93, 94, 95, 96, 97, 98, 99, 100, 101, 102, 103, 104, 105, 106, 107, 108, 109, 110, 111, 112, 113] (by decide +kernel) (by decide +kernel)
set_option maxRecDepth 20000 in
theorem gX6_digest_X6_lacks : GoodIn wsX6_digest (wsV RX6 122 RX6 yX6_lacks wsX6_lacks) := goodIn_app (goodIn_of _ (by decide +kernel)) ggX6_digest_X6_lacks
set_option maxRecDepth 20000 in
theorem ggX6_digest_X6_tellCell : GoodIn wsX6_digest wsX6_tellCell := goodIn_r _ [18, 19, 20, 21, 5, 22, 23, 24, 13, 25, 26, 27, 28, 29, 4, 3, 30, 31, 32, 33, 34, 35, 36, 37, 6, 38, 82, 83, 84, 85, 86, 87, 88, 89, 90, 91, 92, 93, 94, 95, 96, 97, 98, 99, 100, 101, 102, 103, 104, 105, 106, 107, 108, 109, 110, 111, 112, 113] (by decide +kernel) (by decide +kernel)
set_option maxRecDepth 20000 in
theorem gX6_digest_X6_tellCell : GoodIn wsX6_digest (wsV RX6 125 RX6 yX6_tellCell wsX6_tellCell) := goodIn_app (goodIn_of _ (by decide +kernel)) ggX6_digest_X6_tellCell
set_option maxRecDepth 20000 in
theorem ggX6_digest_X6_say : GoodIn wsX6_digest wsX6_say := goodIn_r _ [42, 43, 2, 82, 83, 84, 85, 86, 87, 88, 89, 90, 91, 92, 93, 94, 95, 96, 97, 98, 99, 100, 101, 102, 103, 104, 105, 106, 107, 108, 109, 110, 111, 112, 113] (by decide +kernel) (by decide +kernel)
set_option maxRecDepth 20000 in
theorem gX6_digest_X6_say : GoodIn wsX6_digest (wsV RX6 221 RX6 yX6_say wsX6_say) := goodIn_app (goodIn_of _ (by decide +kernel)) ggX6_digest_X6_say
set_option maxRecDepth 20000 in
theorem ggX6_digest_X6_newStairOf : GoodIn wsX6_digest wsX6_newStairOf := goodIn_r _ [47, 20, 48, 49, 50, 13, 51, 6, 38, 52, 53, 54, 55, 56, 57, 82, 83, 84, 85, 86, 87, 88, 89, 90, 91, 92, 93, 94, 95, 96, 97, 98, 99, 100, 101, 102, 103, 104, 105, 106, 107, 108, 109, 110, 111, 112, 113] (by decide +kernel) (by decide +kernel)
set_option maxRecDepth 20000 in
theorem gX6_digest_X6_newStairOf : GoodIn wsX6_digest (wsV RX6 167 RX6 yX6_newStairOf wsX6_newStairOf) := goodIn_app (goodIn_of _ (by decide +kernel)) ggX6_digest_X6_newStairOf
set_option maxRecDepth 20000 in
theorem ggX6_digest_X6_tell : GoodIn wsX6_digest wsX6_tell := goodIn_r _ [61, 38, 20, 62, 52, 53, 13, 54, 55, 56, 57, 63, 64, 65, 82, 83, 84, 85, 86, 87, 88, 89, 90, 91, 92, 93, 94, 95, 96, 97, 98, 99, 100, 101, 102, 103, 104, 105, 106, 107, 108, 109, 110, 111, 112, 113] (by decide +kernel) (by decide +kernel)
set_option maxRecDepth 20000 in
theorem gX6_digest_X6_tell : GoodIn wsX6_digest (wsV RX6 149 RX6 yX6_tell wsX6_tell) := goodIn_app (goodIn_of _ (by decide +kernel)) ggX6_digest_X6_tell
set_option maxRecDepth 20000 in
theorem ggX6_digest_X6_fitsOf : GoodIn wsX6_digest wsX6_fitsOf := goodIn_r _ [69, 7, 70, 71, 72, 73, 74, 13, 75, 5, 22, 23, 24, 25, 26, 27, 28, 29, 4, 3, 30, 31, 32, 33, 19, 82, 83, 84, 85, 86, 87, 88, 89, 90, 91, 92, 93, 94, 95, 96, 97, 98, 99, 100, 101, 102, 103, 104, 105, 106, 107, 108, 109, 110, 111, 112, 113] (by decide +kernel) (by decide +kernel)
set_option maxRecDepth 20000 in
theorem gX6_digest_X6_fitsOf : GoodIn wsX6_digest (wsV RX6 173 RX6 yX6_fitsOf wsX6_fitsOf) := goodIn_app (goodIn_of _ (by decide +kernel)) ggX6_digest_X6_fitsOf
set_option maxRecDepth 20000 in
theorem ggX6_digest_X6_countOf : GoodIn wsX6_digest wsX6_countOf := goodIn_r _ [79, 6, 38, 20, 21, 3, 7, 8, 80, 81, 82, 83, 84, 85, 86, 87, 88, 89, 90, 91, 92, 93, 94, 95, 96, 97, 98, 99, 100, 101, 102, 103, 104, 105, 106, 107, 108, 109, 110, 111, 112, 113] (by decide +kernel) (by decide +kernel)
set_option maxRecDepth 20000 in
theorem gX6_digest_X6_countOf : GoodIn wsX6_digest (wsV RX6 210 RX6 yX6_countOf wsX6_countOf) := goodIn_app (goodIn_of _ (by decide +kernel)) ggX6_digest_X6_countOf
theorem dX6_digest_0 : decode cX6_digest 0 = .ok (.aload_n 0, 1) := by decide +kernel
theorem dX6_digest_1 : decode cX6_digest 1 = .ok (.ldc2_w 219, 3) := by decide +kernel
theorem dX6_digest_4 : decode cX6_digest 4 = .ok (.putfield 215, 3) := by decide +kernel
theorem dX6_digest_7 : decode cX6_digest 7 = .ok (.aload_n 0, 1) := by decide +kernel
theorem dX6_digest_8 : decode cX6_digest 8 = .ok (.invokevirtual 122, 3) := by decide +kernel
theorem dX6_digest_11 : decode cX6_digest 11 = .ok (.ifCond .ne 77, 3) := by decide +kernel
theorem dX6_digest_14 : decode cX6_digest 14 = .ok (.iconst 0, 1) := by decide +kernel
theorem dX6_digest_15 : decode cX6_digest 15 = .ok (.istore_n 1, 1) := by decide +kernel
theorem dX6_digest_16 : decode cX6_digest 16 = .ok (.iload_n 1, 1) := by decide +kernel
theorem dX6_digest_17 : decode cX6_digest 17 = .ok (.bipush 32, 2) := by decide +kernel
theorem dX6_digest_19 : decode cX6_digest 19 = .ok (.if_icmp .ge 24, 3) := by decide +kernel
theorem dX6_digest_22 : decode cX6_digest 22 = .ok (.aload_n 0, 1) := by decide +kernel
theorem dX6_digest_23 : decode cX6_digest 23 = .ok (.aload_n 0, 1) := by decide +kernel
theorem dX6_digest_24 : decode cX6_digest 24 = .ok (.iload_n 1, 1) := by decide +kernel
theorem dX6_digest_25 : decode cX6_digest 25 = .ok (.iconst 4, 1) := by decide +kernel
theorem dX6_digest_26 : decode cX6_digest 26 = .ok (.idiv, 1) := by decide +kernel
theorem dX6_digest_27 : decode cX6_digest 27 = .ok (.iload_n 1, 1) := by decide +kernel
theorem dX6_digest_28 : decode cX6_digest 28 = .ok (.iconst 4, 1) := by decide +kernel
theorem dX6_digest_29 : decode cX6_digest 29 = .ok (.irem, 1) := by decide +kernel
theorem dX6_digest_30 : decode cX6_digest 30 = .ok (.invokevirtual 125, 3) := by decide +kernel
theorem dX6_digest_33 : decode cX6_digest 33 = .ok (.i2l, 1) := by decide +kernel
theorem dX6_digest_34 : decode cX6_digest 34 = .ok (.invokevirtual 221, 3) := by decide +kernel
theorem dX6_digest_37 : decode cX6_digest 37 = .ok (.iinc 1 1, 3) := by decide +kernel
theorem dX6_digest_40 : decode cX6_digest 40 = .ok (.goto (-24), 3) := by decide +kernel
theorem dX6_digest_43 : decode cX6_digest 43 = .ok (.iconst 0, 1) := by decide +kernel
theorem dX6_digest_44 : decode cX6_digest 44 = .ok (.istore_n 1, 1) := by decide +kernel
theorem dX6_digest_45 : decode cX6_digest 45 = .ok (.iload_n 1, 1) := by decide +kernel
theorem dX6_digest_46 : decode cX6_digest 46 = .ok (.aload_n 0, 1) := by decide +kernel
theorem dX6_digest_47 : decode cX6_digest 47 = .ok (.getfield 82, 3) := by decide +kernel
theorem dX6_digest_50 : decode cX6_digest 50 = .ok (.if_icmp .ge 20, 3) := by decide +kernel
theorem dX6_digest_53 : decode cX6_digest 53 = .ok (.aload_n 0, 1) := by decide +kernel
theorem dX6_digest_54 : decode cX6_digest 54 = .ok (.aload_n 0, 1) := by decide +kernel
theorem dX6_digest_55 : decode cX6_digest 55 = .ok (.getfield 22, 3) := by decide +kernel
theorem dX6_digest_58 : decode cX6_digest 58 = .ok (.iload_n 1, 1) := by decide +kernel
theorem dX6_digest_59 : decode cX6_digest 59 = .ok (.iaload, 1) := by decide +kernel
theorem dX6_digest_60 : decode cX6_digest 60 = .ok (.i2l, 1) := by decide +kernel
theorem dX6_digest_61 : decode cX6_digest 61 = .ok (.invokevirtual 221, 3) := by decide +kernel
theorem dX6_digest_64 : decode cX6_digest 64 = .ok (.iinc 1 1, 3) := by decide +kernel
theorem dX6_digest_67 : decode cX6_digest 67 = .ok (.goto (-22), 3) := by decide +kernel
theorem dX6_digest_70 : decode cX6_digest 70 = .ok (.aload_n 0, 1) := by decide +kernel
theorem dX6_digest_71 : decode cX6_digest 71 = .ok (.aload_n 0, 1) := by decide +kernel
theorem dX6_digest_72 : decode cX6_digest 72 = .ok (.getfield 47, 3) := by decide +kernel
theorem dX6_digest_75 : decode cX6_digest 75 = .ok (.i2l, 1) := by decide +kernel
theorem dX6_digest_76 : decode cX6_digest 76 = .ok (.invokevirtual 221, 3) := by decide +kernel
theorem dX6_digest_79 : decode cX6_digest 79 = .ok (.aload_n 0, 1) := by decide +kernel
theorem dX6_digest_80 : decode cX6_digest 80 = .ok (.aload_n 0, 1) := by decide +kernel
theorem dX6_digest_81 : decode cX6_digest 81 = .ok (.invokevirtual 167, 3) := by decide +kernel
theorem dX6_digest_84 : decode cX6_digest 84 = .ok (.i2l, 1) := by decide +kernel
theorem dX6_digest_85 : decode cX6_digest 85 = .ok (.invokevirtual 221, 3) := by decide +kernel
theorem dX6_digest_88 : decode cX6_digest 88 = .ok (.iconst 0, 1) := by decide +kernel
theorem dX6_digest_89 : decode cX6_digest 89 = .ok (.istore_n 1, 1) := by decide +kernel
theorem dX6_digest_90 : decode cX6_digest 90 = .ok (.iload_n 1, 1) := by decide +kernel
theorem dX6_digest_91 : decode cX6_digest 91 = .ok (.iconst 4, 1) := by decide +kernel
theorem dX6_digest_92 : decode cX6_digest 92 = .ok (.aload_n 0, 1) := by decide +kernel
theorem dX6_digest_93 : decode cX6_digest 93 = .ok (.getfield 91, 3) := by decide +kernel
theorem dX6_digest_96 : decode cX6_digest 96 = .ok (.imul, 1) := by decide +kernel
theorem dX6_digest_97 : decode cX6_digest 97 = .ok (.if_icmp .ge 24, 3) := by decide +kernel
theorem dX6_digest_100 : decode cX6_digest 100 = .ok (.aload_n 0, 1) := by decide +kernel
theorem dX6_digest_101 : decode cX6_digest 101 = .ok (.aload_n 0, 1) := by decide +kernel
theorem dX6_digest_102 : decode cX6_digest 102 = .ok (.iload_n 1, 1) := by decide +kernel
theorem dX6_digest_103 : decode cX6_digest 103 = .ok (.iconst 4, 1) := by decide +kernel
theorem dX6_digest_104 : decode cX6_digest 104 = .ok (.idiv, 1) := by decide +kernel
theorem dX6_digest_105 : decode cX6_digest 105 = .ok (.iload_n 1, 1) := by decide +kernel
theorem dX6_digest_106 : decode cX6_digest 106 = .ok (.iconst 4, 1) := by decide +kernel
theorem dX6_digest_107 : decode cX6_digest 107 = .ok (.irem, 1) := by decide +kernel
theorem dX6_digest_108 : decode cX6_digest 108 = .ok (.invokevirtual 149, 3) := by decide +kernel
theorem dX6_digest_111 : decode cX6_digest 111 = .ok (.i2l, 1) := by decide +kernel
theorem dX6_digest_112 : decode cX6_digest 112 = .ok (.invokevirtual 221, 3) := by decide +kernel
theorem dX6_digest_115 : decode cX6_digest 115 = .ok (.iinc 1 1, 3) := by decide +kernel
theorem dX6_digest_118 : decode cX6_digest 118 = .ok (.goto (-28), 3) := by decide +kernel
theorem dX6_digest_121 : decode cX6_digest 121 = .ok (.aload_n 0, 1) := by decide +kernel
theorem dX6_digest_122 : decode cX6_digest 122 = .ok (.getfield 94, 3) := by decide +kernel
theorem dX6_digest_125 : decode cX6_digest 125 = .ok (.ifCond .le 12, 3) := by decide +kernel
theorem dX6_digest_128 : decode cX6_digest 128 = .ok (.aload_n 0, 1) := by decide +kernel
theorem dX6_digest_129 : decode cX6_digest 129 = .ok (.aload_n 0, 1) := by decide +kernel
theorem dX6_digest_130 : decode cX6_digest 130 = .ok (.invokevirtual 173, 3) := by decide +kernel
theorem dX6_digest_133 : decode cX6_digest 133 = .ok (.i2l, 1) := by decide +kernel
theorem dX6_digest_134 : decode cX6_digest 134 = .ok (.invokevirtual 221, 3) := by decide +kernel
theorem dX6_digest_137 : decode cX6_digest 137 = .ok (.iconst 0, 1) := by decide +kernel
theorem dX6_digest_138 : decode cX6_digest 138 = .ok (.istore_n 1, 1) := by decide +kernel
theorem dX6_digest_139 : decode cX6_digest 139 = .ok (.iload_n 1, 1) := by decide +kernel
theorem dX6_digest_140 : decode cX6_digest 140 = .ok (.aload_n 0, 1) := by decide +kernel
theorem dX6_digest_141 : decode cX6_digest 141 = .ok (.getfield 52, 3) := by decide +kernel
theorem dX6_digest_144 : decode cX6_digest 144 = .ok (.if_icmp .ge 20, 3) := by decide +kernel
theorem dX6_digest_147 : decode cX6_digest 147 = .ok (.aload_n 0, 1) := by decide +kernel
theorem dX6_digest_148 : decode cX6_digest 148 = .ok (.aload_n 0, 1) := by decide +kernel
theorem dX6_digest_149 : decode cX6_digest 149 = .ok (.getfield 7, 3) := by decide +kernel
theorem dX6_digest_152 : decode cX6_digest 152 = .ok (.iload_n 1, 1) := by decide +kernel
theorem dX6_digest_153 : decode cX6_digest 153 = .ok (.iaload, 1) := by decide +kernel
theorem dX6_digest_154 : decode cX6_digest 154 = .ok (.i2l, 1) := by decide +kernel
theorem dX6_digest_155 : decode cX6_digest 155 = .ok (.invokevirtual 221, 3) := by decide +kernel
theorem dX6_digest_158 : decode cX6_digest 158 = .ok (.iinc 1 1, 3) := by decide +kernel
theorem dX6_digest_161 : decode cX6_digest 161 = .ok (.goto (-22), 3) := by decide +kernel
theorem dX6_digest_164 : decode cX6_digest 164 = .ok (.iconst 0, 1) := by decide +kernel
theorem dX6_digest_165 : decode cX6_digest 165 = .ok (.istore_n 1, 1) := by decide +kernel
theorem dX6_digest_166 : decode cX6_digest 166 = .ok (.iload_n 1, 1) := by decide +kernel
theorem dX6_digest_167 : decode cX6_digest 167 = .ok (.bipush 10, 2) := by decide +kernel
theorem dX6_digest_169 : decode cX6_digest 169 = .ok (.if_icmp .ge 19, 3) := by decide +kernel
theorem dX6_digest_172 : decode cX6_digest 172 = .ok (.aload_n 0, 1) := by decide +kernel
theorem dX6_digest_173 : decode cX6_digest 173 = .ok (.aload_n 0, 1) := by decide +kernel
theorem dX6_digest_174 : decode cX6_digest 174 = .ok (.iload_n 1, 1) := by decide +kernel
theorem dX6_digest_175 : decode cX6_digest 175 = .ok (.invokevirtual 210, 3) := by decide +kernel
theorem dX6_digest_178 : decode cX6_digest 178 = .ok (.i2l, 1) := by decide +kernel
theorem dX6_digest_179 : decode cX6_digest 179 = .ok (.invokevirtual 221, 3) := by decide +kernel
theorem dX6_digest_182 : decode cX6_digest 182 = .ok (.iinc 1 1, 3) := by decide +kernel
theorem dX6_digest_185 : decode cX6_digest 185 = .ok (.goto (-19), 3) := by decide +kernel
theorem dX6_digest_188 : decode cX6_digest 188 = .ok (.aload_n 0, 1) := by decide +kernel
theorem dX6_digest_189 : decode cX6_digest 189 = .ok (.getfield 215, 3) := by decide +kernel
theorem dX6_digest_192 : decode cX6_digest 192 = .ok (.lreturn, 1) := by decide +kernel

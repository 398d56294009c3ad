theorem dX5_init_0 : decode cX5_init 0 = .ok (.aload_n 0, 1) := by decide +kernel
theorem dX5_init_1 : decode cX5_init 1 = .ok (.invokespecial 1, 3) := by decide +kernel
theorem dX5_init_4 : decode cX5_init 4 = .ok (.aload_n 0, 1) := by decide +kernel
theorem dX5_init_5 : decode cX5_init 5 = .ok (.new 7, 3) := by decide +kernel
theorem dX5_init_8 : decode cX5_init 8 = .ok (.dup, 1) := by decide +kernel
theorem dX5_init_9 : decode cX5_init 9 = .ok (.invokespecial 9, 3) := by decide +kernel
theorem dX5_init_12 : decode cX5_init 12 = .ok (.putfield 10, 3) := by decide +kernel
theorem dX5_init_15 : decode cX5_init 15 = .ok (.aload_n 0, 1) := by decide +kernel
theorem dX5_init_16 : decode cX5_init 16 = .ok (.new 16, 3) := by decide +kernel
theorem dX5_init_19 : decode cX5_init 19 = .ok (.dup, 1) := by decide +kernel
theorem dX5_init_20 : decode cX5_init 20 = .ok (.invokespecial 18, 3) := by decide +kernel
theorem dX5_init_23 : decode cX5_init 23 = .ok (.putfield 19, 3) := by decide +kernel
theorem dX5_init_26 : decode cX5_init 26 = .ok (.aload_n 0, 1) := by decide +kernel
theorem dX5_init_27 : decode cX5_init 27 = .ok (.new 23, 3) := by decide +kernel
theorem dX5_init_30 : decode cX5_init 30 = .ok (.dup, 1) := by decide +kernel
theorem dX5_init_31 : decode cX5_init 31 = .ok (.invokespecial 25, 3) := by decide +kernel
theorem dX5_init_34 : decode cX5_init 34 = .ok (.putfield 26, 3) := by decide +kernel
theorem dX5_init_37 : decode cX5_init 37 = .ok (.aload_n 0, 1) := by decide +kernel
theorem dX5_init_38 : decode cX5_init 38 = .ok (.new 23, 3) := by decide +kernel
theorem dX5_init_41 : decode cX5_init 41 = .ok (.dup, 1) := by decide +kernel
theorem dX5_init_42 : decode cX5_init 42 = .ok (.invokespecial 25, 3) := by decide +kernel
theorem dX5_init_45 : decode cX5_init 45 = .ok (.putfield 30, 3) := by decide +kernel
theorem dX5_init_48 : decode cX5_init 48 = .ok (.aload_n 0, 1) := by decide +kernel
theorem dX5_init_49 : decode cX5_init 49 = .ok (.new 23, 3) := by decide +kernel
theorem dX5_init_52 : decode cX5_init 52 = .ok (.dup, 1) := by decide +kernel
theorem dX5_init_53 : decode cX5_init 53 = .ok (.invokespecial 25, 3) := by decide +kernel
theorem dX5_init_56 : decode cX5_init 56 = .ok (.putfield 33, 3) := by decide +kernel
theorem dX5_init_59 : decode cX5_init 59 = .ok (.aload_n 0, 1) := by decide +kernel
theorem dX5_init_60 : decode cX5_init 60 = .ok (.new 36, 3) := by decide +kernel
theorem dX5_init_63 : decode cX5_init 63 = .ok (.dup, 1) := by decide +kernel
theorem dX5_init_64 : decode cX5_init 64 = .ok (.invokespecial 38, 3) := by decide +kernel
theorem dX5_init_67 : decode cX5_init 67 = .ok (.putfield 39, 3) := by decide +kernel
theorem dX5_init_70 : decode cX5_init 70 = .ok (.aload_n 0, 1) := by decide +kernel
theorem dX5_init_71 : decode cX5_init 71 = .ok (.new 43, 3) := by decide +kernel
theorem dX5_init_74 : decode cX5_init 74 = .ok (.dup, 1) := by decide +kernel
theorem dX5_init_75 : decode cX5_init 75 = .ok (.invokespecial 45, 3) := by decide +kernel
theorem dX5_init_78 : decode cX5_init 78 = .ok (.putfield 46, 3) := by decide +kernel
theorem dX5_init_81 : decode cX5_init 81 = .ok (.aload_n 0, 1) := by decide +kernel
theorem dX5_init_82 : decode cX5_init 82 = .ok (.iconst 0, 1) := by decide +kernel
theorem dX5_init_83 : decode cX5_init 83 = .ok (.putfield 50, 3) := by decide +kernel
theorem dX5_init_86 : decode cX5_init 86 = .ok (.aload_n 0, 1) := by decide +kernel
theorem dX5_init_87 : decode cX5_init 87 = .ok (.iconst 0, 1) := by decide +kernel
theorem dX5_init_88 : decode cX5_init 88 = .ok (.putfield 54, 3) := by decide +kernel
theorem dX5_init_91 : decode cX5_init 91 = .ok (.aload_n 0, 1) := by decide +kernel
theorem dX5_init_92 : decode cX5_init 92 = .ok (.iconst 0, 1) := by decide +kernel
theorem dX5_init_93 : decode cX5_init 93 = .ok (.putfield 57, 3) := by decide +kernel
theorem dX5_init_96 : decode cX5_init 96 = .ok (.return_, 1) := by decide +kernel
set_option maxRecDepth 20000 in
theorem ggX5_letters_X2_lettersIn : GoodIn wsX5_letters wsX2_lettersIn := goodIn_r _ [6, 7, 8, 5, 9, 10] (by decide +kernel) (by decide +kernel)
set_option maxRecDepth 20000 in
theorem gX5_letters_X2_lettersIn : GoodIn wsX5_letters (va_wsS RX5 60 yX2_lettersIn wsX2_lettersIn) := goodIn_app (goodIn_of _ (by decide +kernel)) ggX5_letters_X2_lettersIn
set_option maxRecDepth 20000 in
theorem ggX5_letters_X2_append : GoodIn wsX5_letters wsX2_append := goodIn_r _ [14, 15, 16, 7, 8, 5, 9, 10, 27, 28] (by decide +kernel) (by decide +kernel)
set_option maxRecDepth 20000 in
theorem gX5_letters_X2_append : GoodIn wsX5_letters (wsV RX5 67 RX2 yX2_append wsX2_append) := goodIn_app (goodIn_of _ (by decide +kernel)) ggX5_letters_X2_append
theorem dX5_letters_0 : decode cX5_letters 0 = .ok (.lload_n 1, 1) := by decide +kernel
theorem dX5_letters_1 : decode cX5_letters 1 = .ok (.invokestatic 60, 3) := by decide +kernel
theorem dX5_letters_4 : decode cX5_letters 4 = .ok (.istore_n 3, 1) := by decide +kernel
theorem dX5_letters_5 : decode cX5_letters 5 = .ok (.iload_n 3, 1) := by decide +kernel
theorem dX5_letters_6 : decode cX5_letters 6 = .ok (.iconst (-1), 1) := by decide +kernel
theorem dX5_letters_7 : decode cX5_letters 7 = .ok (.if_icmp .ne 6, 3) := by decide +kernel
theorem dX5_letters_10 : decode cX5_letters 10 = .ok (.bipush (-102), 2) := by decide +kernel
theorem dX5_letters_12 : decode cX5_letters 12 = .ok (.ireturn, 1) := by decide +kernel
theorem dX5_letters_13 : decode cX5_letters 13 = .ok (.aload_n 0, 1) := by decide +kernel
theorem dX5_letters_14 : decode cX5_letters 14 = .ok (.getfield 10, 3) := by decide +kernel
theorem dX5_letters_17 : decode cX5_letters 17 = .ok (.getfield 64, 3) := by decide +kernel
theorem dX5_letters_20 : decode cX5_letters 20 = .ok (.iload_n 3, 1) := by decide +kernel
theorem dX5_letters_21 : decode cX5_letters 21 = .ok (.iadd, 1) := by decide +kernel
theorem dX5_letters_22 : decode cX5_letters 22 = .ok (.bipush 32, 2) := by decide +kernel
theorem dX5_letters_24 : decode cX5_letters 24 = .ok (.if_icmp .le 6, 3) := by decide +kernel
theorem dX5_letters_27 : decode cX5_letters 27 = .ok (.bipush (-104), 2) := by decide +kernel
theorem dX5_letters_29 : decode cX5_letters 29 = .ok (.ireturn, 1) := by decide +kernel
theorem dX5_letters_30 : decode cX5_letters 30 = .ok (.aload_n 0, 1) := by decide +kernel
theorem dX5_letters_31 : decode cX5_letters 31 = .ok (.getfield 10, 3) := by decide +kernel
theorem dX5_letters_34 : decode cX5_letters 34 = .ok (.lload_n 1, 1) := by decide +kernel
theorem dX5_letters_35 : decode cX5_letters 35 = .ok (.iload_n 3, 1) := by decide +kernel
theorem dX5_letters_36 : decode cX5_letters 36 = .ok (.invokevirtual 67, 3) := by decide +kernel
theorem dX5_letters_39 : decode cX5_letters 39 = .ok (.aload_n 0, 1) := by decide +kernel
theorem dX5_letters_40 : decode cX5_letters 40 = .ok (.getfield 10, 3) := by decide +kernel
theorem dX5_letters_43 : decode cX5_letters 43 = .ok (.getfield 64, 3) := by decide +kernel
theorem dX5_letters_46 : decode cX5_letters 46 = .ok (.ireturn, 1) := by decide +kernel
theorem dX5_blank_0 : decode cX5_blank 0 = .ok (.aload_n 0, 1) := by decide +kernel
theorem dX5_blank_1 : decode cX5_blank 1 = .ok (.getfield 10, 3) := by decide +kernel
theorem dX5_blank_4 : decode cX5_blank 4 = .ok (.getfield 64, 3) := by decide +kernel
theorem dX5_blank_7 : decode cX5_blank 7 = .ok (.istore_n 1, 1) := by decide +kernel
theorem dX5_blank_8 : decode cX5_blank 8 = .ok (.aload_n 0, 1) := by decide +kernel
theorem dX5_blank_9 : decode cX5_blank 9 = .ok (.getfield 10, 3) := by decide +kernel
theorem dX5_blank_12 : decode cX5_blank 12 = .ok (.iconst 0, 1) := by decide +kernel
theorem dX5_blank_13 : decode cX5_blank 13 = .ok (.putfield 64, 3) := by decide +kernel
theorem dX5_blank_16 : decode cX5_blank 16 = .ok (.iload_n 1, 1) := by decide +kernel
theorem dX5_blank_17 : decode cX5_blank 17 = .ok (.ireturn, 1) := by decide +kernel
set_option maxRecDepth 20000 in
theorem ggX5_fault_X2_faultPlace : GoodIn wsX5_fault wsX2_faultPlace := goodIn_r _ [6, 7, 8, 9, 10, 5, 11, 12, 13, 14, 15, 16, 17, 18, 19, 20, 31, 32] (by decide +kernel) (by decide +kernel)
set_option maxRecDepth 20000 in
theorem gX5_fault_X2_faultPlace : GoodIn wsX5_fault (wsV RX5 71 RX2 yX2_faultPlace wsX2_faultPlace) := goodIn_app (goodIn_of _ (by decide +kernel)) ggX5_fault_X2_faultPlace
theorem dX5_fault_0 : decode cX5_fault 0 = .ok (.aload_n 0, 1) := by decide +kernel
theorem dX5_fault_1 : decode cX5_fault 1 = .ok (.getfield 10, 3) := by decide +kernel
theorem dX5_fault_4 : decode cX5_fault 4 = .ok (.invokevirtual 71, 3) := by decide +kernel
theorem dX5_fault_7 : decode cX5_fault 7 = .ok (.ireturn, 1) := by decide +kernel
set_option maxRecDepth 20000 in
theorem ggX5_shore_X2_isShore : GoodIn wsX5_shore wsX2_isShore := goodIn_r _ [11, 12, 13, 14, 15, 10, 16, 17, 18, 19, 20, 21, 22, 23, 24, 25, 26, 27, 28, 29, 30, 31, 32, 33, 65, 66] (by decide +kernel) (by decide +kernel)
set_option maxRecDepth 20000 in
theorem gX5_shore_X2_isShore : GoodIn wsX5_shore (wsV RX5 75 RX2 yX2_isShore wsX2_isShore) := goodIn_app (goodIn_of _ (by decide +kernel)) ggX5_shore_X2_isShore
set_option maxRecDepth 20000 in
theorem ggX5_shore_X4_readFrom : GoodIn wsX5_shore wsX4_readFrom := goodIn_r _ [38, 39, 40, 41, 42, 43, 44, 45, 14, 15, 10, 16, 12, 17, 67, 68, 69, 70, 65, 66] (by decide +kernel) (by decide +kernel)
set_option maxRecDepth 20000 in
theorem gX5_shore_X4_readFrom : GoodIn wsX5_shore (wsV RX5 79 RX4 yX4_readFrom wsX4_readFrom) := goodIn_app (goodIn_of _ (by decide +kernel)) ggX5_shore_X4_readFrom
set_option maxRecDepth 20000 in
theorem ggX5_shore_X3_clear : GoodIn wsX5_shore wsX3_clear := goodIn_r _ [50, 51, 52, 53, 54, 71, 72, 73, 74, 75, 76, 77, 78, 79] (by decide +kernel) (by decide +kernel)
set_option maxRecDepth 20000 in
theorem gX5_shore_X3_clear : GoodIn wsX5_shore (wsV RX5 83 RX3 yX3_clear wsX3_clear) := goodIn_app (goodIn_of _ (by decide +kernel)) ggX5_shore_X3_clear
theorem dX5_shore_0 : decode cX5_shore 0 = .ok (.aload_n 0, 1) := by decide +kernel
theorem dX5_shore_1 : decode cX5_shore 1 = .ok (.getfield 10, 3) := by decide +kernel
theorem dX5_shore_4 : decode cX5_shore 4 = .ok (.invokevirtual 75, 3) := by decide +kernel
theorem dX5_shore_7 : decode cX5_shore 7 = .ok (.ifCond .ne 6, 3) := by decide +kernel
theorem dX5_shore_10 : decode cX5_shore 10 = .ok (.bipush (-103), 2) := by decide +kernel
theorem dX5_shore_12 : decode cX5_shore 12 = .ok (.ireturn, 1) := by decide +kernel
theorem dX5_shore_13 : decode cX5_shore 13 = .ok (.aload_n 0, 1) := by decide +kernel
theorem dX5_shore_14 : decode cX5_shore 14 = .ok (.getfield 19, 3) := by decide +kernel
theorem dX5_shore_17 : decode cX5_shore 17 = .ok (.aload_n 0, 1) := by decide +kernel
theorem dX5_shore_18 : decode cX5_shore 18 = .ok (.getfield 10, 3) := by decide +kernel
theorem dX5_shore_21 : decode cX5_shore 21 = .ok (.invokevirtual 79, 3) := by decide +kernel
theorem dX5_shore_24 : decode cX5_shore 24 = .ok (.aload_n 0, 1) := by decide +kernel
theorem dX5_shore_25 : decode cX5_shore 25 = .ok (.getfield 26, 3) := by decide +kernel
theorem dX5_shore_28 : decode cX5_shore 28 = .ok (.invokevirtual 83, 3) := by decide +kernel
theorem dX5_shore_31 : decode cX5_shore 31 = .ok (.aload_n 0, 1) := by decide +kernel
theorem dX5_shore_32 : decode cX5_shore 32 = .ok (.getfield 10, 3) := by decide +kernel
theorem dX5_shore_35 : decode cX5_shore 35 = .ok (.iconst 0, 1) := by decide +kernel
theorem dX5_shore_36 : decode cX5_shore 36 = .ok (.putfield 64, 3) := by decide +kernel
theorem dX5_shore_39 : decode cX5_shore 39 = .ok (.aload_n 0, 1) := by decide +kernel
theorem dX5_shore_40 : decode cX5_shore 40 = .ok (.dup, 1) := by decide +kernel
theorem dX5_shore_41 : decode cX5_shore 41 = .ok (.getfield 50, 3) := by decide +kernel
theorem dX5_shore_44 : decode cX5_shore 44 = .ok (.iconst 1, 1) := by decide +kernel
theorem dX5_shore_45 : decode cX5_shore 45 = .ok (.iadd, 1) := by decide +kernel
theorem dX5_shore_46 : decode cX5_shore 46 = .ok (.putfield 50, 3) := by decide +kernel
theorem dX5_shore_49 : decode cX5_shore 49 = .ok (.aload_n 0, 1) := by decide +kernel
theorem dX5_shore_50 : decode cX5_shore 50 = .ok (.getfield 19, 3) := by decide +kernel
theorem dX5_shore_53 : decode cX5_shore 53 = .ok (.getfield 86, 3) := by decide +kernel
theorem dX5_shore_56 : decode cX5_shore 56 = .ok (.ireturn, 1) := by decide +kernel
set_option maxRecDepth 20000 in
theorem ggX5_cell_X5_isCell : GoodIn wsX5_cell wsX5_isCell := goodIn_r _ [7] (by decide +kernel) (by decide +kernel)
set_option maxRecDepth 20000 in
theorem gX5_cell_X5_isCell : GoodIn wsX5_cell (va_wsS RX5 89 yX5_isCell wsX5_isCell) := goodIn_app (goodIn_of _ (by decide +kernel)) ggX5_cell_X5_isCell
set_option maxRecDepth 20000 in
theorem ggX5_cell_X5_hasShore : GoodIn wsX5_cell wsX5_hasShore := goodIn_r _ [11, 12, 58, 59, 60, 61, 62, 63, 64, 65, 66, 67] (by decide +kernel) (by decide +kernel)
set_option maxRecDepth 20000 in
theorem gX5_cell_X5_hasShore : GoodIn wsX5_cell (wsV RX5 93 RX5 yX5_hasShore wsX5_hasShore) := goodIn_app (goodIn_of _ (by decide +kernel)) ggX5_cell_X5_hasShore
set_option maxRecDepth 20000 in
theorem ggX5_cell_X4_hasStair : GoodIn wsX5_cell wsX4_hasStair := goodIn_r _ [17, 18, 5, 6, 7, 68, 69, 70, 71] (by decide +kernel) (by decide +kernel)
set_option maxRecDepth 20000 in
theorem gX5_cell_X4_hasStair : GoodIn wsX5_cell (wsV RX5 100 RX4 yX4_hasStair wsX4_hasStair) := goodIn_app (goodIn_of _ (by decide +kernel)) ggX5_cell_X4_hasStair
set_option maxRecDepth 20000 in
theorem ggX5_cell_X5_isDryNow : GoodIn wsX5_cell wsX5_isDryNow := goodIn_r _ [22, 1, 3, 23, 24, 25, 26, 27, 16, 28, 5, 6, 7, 29, 30, 31, 32, 33, 34, 35, 36, 37, 38, 39, 40, 41, 42, 43, 44, 45, 46, 47, 48, 49, 50, 58, 59, 60, 61, 62, 63, 64, 65, 66, 67, 72, 73, 74, 75, 76, 77, 78, 79, 80, 68, 69, 70, 71] (by decide +kernel) (by decide +kernel)
set_option maxRecDepth 20000 in
theorem gX5_cell_X5_isDryNow : GoodIn wsX5_cell (wsV RX5 103 RX5 yX5_isDryNow wsX5_isDryNow) := goodIn_app (goodIn_of _ (by decide +kernel)) ggX5_cell_X5_isDryNow
set_option maxRecDepth 20000 in
theorem ggX5_cell_X3_countIn : GoodIn wsX5_cell wsX3_countIn := goodIn_r _ [55, 56, 57, 72, 73, 74, 75, 76, 77, 78, 79, 80] (by decide +kernel) (by decide +kernel)
set_option maxRecDepth 20000 in
theorem gX5_cell_X3_countIn : GoodIn wsX5_cell (wsV RX5 106 RX3 yX3_countIn wsX3_countIn) := goodIn_app (goodIn_of _ (by decide +kernel)) ggX5_cell_X3_countIn
theorem dX5_cell_0 : decode cX5_cell 0 = .ok (.iload_n 1, 1) := by decide +kernel
theorem dX5_cell_1 : decode cX5_cell 1 = .ok (.invokestatic 89, 3) := by decide +kernel
theorem dX5_cell_4 : decode cX5_cell 4 = .ok (.ifCond .ne 6, 3) := by decide +kernel
theorem dX5_cell_7 : decode cX5_cell 7 = .ok (.bipush (-101), 2) := by decide +kernel
theorem dX5_cell_9 : decode cX5_cell 9 = .ok (.ireturn, 1) := by decide +kernel
theorem dX5_cell_10 : decode cX5_cell 10 = .ok (.iload_n 2, 1) := by decide +kernel
theorem dX5_cell_11 : decode cX5_cell 11 = .ok (.ifCond .lt 8, 3) := by decide +kernel
theorem dX5_cell_14 : decode cX5_cell 14 = .ok (.iload_n 2, 1) := by decide +kernel
theorem dX5_cell_15 : decode cX5_cell 15 = .ok (.iconst 3, 1) := by decide +kernel
theorem dX5_cell_16 : decode cX5_cell 16 = .ok (.if_icmp .le 6, 3) := by decide +kernel
theorem dX5_cell_19 : decode cX5_cell 19 = .ok (.bipush (-102), 2) := by decide +kernel
theorem dX5_cell_21 : decode cX5_cell 21 = .ok (.ireturn, 1) := by decide +kernel
theorem dX5_cell_22 : decode cX5_cell 22 = .ok (.aload_n 0, 1) := by decide +kernel
theorem dX5_cell_23 : decode cX5_cell 23 = .ok (.invokevirtual 93, 3) := by decide +kernel
theorem dX5_cell_26 : decode cX5_cell 26 = .ok (.ifCond .ne 6, 3) := by decide +kernel
theorem dX5_cell_29 : decode cX5_cell 29 = .ok (.bipush (-103), 2) := by decide +kernel
theorem dX5_cell_31 : decode cX5_cell 31 = .ok (.ireturn, 1) := by decide +kernel
theorem dX5_cell_32 : decode cX5_cell 32 = .ok (.iload_n 2, 1) := by decide +kernel
theorem dX5_cell_33 : decode cX5_cell 33 = .ok (.tableswitch 68 0 2 #[27, 37, 54], 27) := by decide +kernel
theorem dX5_cell_60 : decode cX5_cell 60 = .ok (.aload_n 0, 1) := by decide +kernel
theorem dX5_cell_61 : decode cX5_cell 61 = .ok (.getfield 19, 3) := by decide +kernel
theorem dX5_cell_64 : decode cX5_cell 64 = .ok (.getfield 96, 3) := by decide +kernel
theorem dX5_cell_67 : decode cX5_cell 67 = .ok (.iload_n 1, 1) := by decide +kernel
theorem dX5_cell_68 : decode cX5_cell 68 = .ok (.iaload, 1) := by decide +kernel
theorem dX5_cell_69 : decode cX5_cell 69 = .ok (.ireturn, 1) := by decide +kernel
theorem dX5_cell_70 : decode cX5_cell 70 = .ok (.aload_n 0, 1) := by decide +kernel
theorem dX5_cell_71 : decode cX5_cell 71 = .ok (.getfield 19, 3) := by decide +kernel
theorem dX5_cell_74 : decode cX5_cell 74 = .ok (.iload_n 1, 1) := by decide +kernel
theorem dX5_cell_75 : decode cX5_cell 75 = .ok (.invokevirtual 100, 3) := by decide +kernel
theorem dX5_cell_78 : decode cX5_cell 78 = .ok (.ifCond .eq 7, 3) := by decide +kernel
theorem dX5_cell_81 : decode cX5_cell 81 = .ok (.iconst 1, 1) := by decide +kernel
theorem dX5_cell_82 : decode cX5_cell 82 = .ok (.goto 4, 3) := by decide +kernel
theorem dX5_cell_85 : decode cX5_cell 85 = .ok (.iconst 0, 1) := by decide +kernel
theorem dX5_cell_86 : decode cX5_cell 86 = .ok (.ireturn, 1) := by decide +kernel
theorem dX5_cell_87 : decode cX5_cell 87 = .ok (.aload_n 0, 1) := by decide +kernel
theorem dX5_cell_88 : decode cX5_cell 88 = .ok (.iload_n 1, 1) := by decide +kernel
theorem dX5_cell_89 : decode cX5_cell 89 = .ok (.invokevirtual 103, 3) := by decide +kernel
theorem dX5_cell_92 : decode cX5_cell 92 = .ok (.ifCond .eq 7, 3) := by decide +kernel
theorem dX5_cell_95 : decode cX5_cell 95 = .ok (.iconst 1, 1) := by decide +kernel
theorem dX5_cell_96 : decode cX5_cell 96 = .ok (.goto 4, 3) := by decide +kernel
theorem dX5_cell_99 : decode cX5_cell 99 = .ok (.iconst 0, 1) := by decide +kernel
theorem dX5_cell_100 : decode cX5_cell 100 = .ok (.ireturn, 1) := by decide +kernel
theorem dX5_cell_101 : decode cX5_cell 101 = .ok (.aload_n 0, 1) := by decide +kernel
theorem dX5_cell_102 : decode cX5_cell 102 = .ok (.getfield 26, 3) := by decide +kernel
theorem dX5_cell_105 : decode cX5_cell 105 = .ok (.iload_n 1, 1) := by decide +kernel
theorem dX5_cell_106 : decode cX5_cell 106 = .ok (.invokevirtual 106, 3) := by decide +kernel
theorem dX5_cell_109 : decode cX5_cell 109 = .ok (.ireturn, 1) := by decide +kernel
set_option maxRecDepth 20000 in
theorem ggX5_tide_X5_hasShore : GoodIn wsX5_tide wsX5_hasShore := goodIn_r _ [8, 9, 21, 22, 23, 24, 25, 26, 27, 28, 29, 30] (by decide +kernel) (by decide +kernel)
set_option maxRecDepth 20000 in
theorem gX5_tide_X5_hasShore : GoodIn wsX5_tide (wsV RX5 93 RX5 yX5_hasShore wsX5_hasShore) := goodIn_app (goodIn_of _ (by decide +kernel)) ggX5_tide_X5_hasShore
set_option maxRecDepth 20000 in
theorem ggX5_tide_X4_heightIn : GoodIn wsX5_tide wsX4_heightIn := goodIn_r _ [14, 15, 16, 17, 18, 19, 20, 40, 41, 42, 43] (by decide +kernel) (by decide +kernel)
set_option maxRecDepth 20000 in
theorem gX5_tide_X4_heightIn : GoodIn wsX5_tide (wsV RX5 113 RX4 yX4_heightIn wsX4_heightIn) := goodIn_app (goodIn_of _ (by decide +kernel)) ggX5_tide_X4_heightIn
theorem dX5_tide_0 : decode cX5_tide 0 = .ok (.iload_n 1, 1) := by decide +kernel
theorem dX5_tide_1 : decode cX5_tide 1 = .ok (.ifCond .lt 9, 3) := by decide +kernel
theorem dX5_tide_4 : decode cX5_tide 4 = .ok (.iload_n 1, 1) := by decide +kernel
theorem dX5_tide_5 : decode cX5_tide 5 = .ok (.bipush 99, 2) := by decide +kernel
theorem dX5_tide_7 : decode cX5_tide 7 = .ok (.if_icmp .le 6, 3) := by decide +kernel
theorem dX5_tide_10 : decode cX5_tide 10 = .ok (.bipush (-102), 2) := by decide +kernel
theorem dX5_tide_12 : decode cX5_tide 12 = .ok (.ireturn, 1) := by decide +kernel
theorem dX5_tide_13 : decode cX5_tide 13 = .ok (.aload_n 0, 1) := by decide +kernel
theorem dX5_tide_14 : decode cX5_tide 14 = .ok (.invokevirtual 93, 3) := by decide +kernel
theorem dX5_tide_17 : decode cX5_tide 17 = .ok (.ifCond .ne 6, 3) := by decide +kernel
theorem dX5_tide_20 : decode cX5_tide 20 = .ok (.bipush (-103), 2) := by decide +kernel
theorem dX5_tide_22 : decode cX5_tide 22 = .ok (.ireturn, 1) := by decide +kernel
theorem dX5_tide_23 : decode cX5_tide 23 = .ok (.aload_n 0, 1) := by decide +kernel
theorem dX5_tide_24 : decode cX5_tide 24 = .ok (.getfield 19, 3) := by decide +kernel
theorem dX5_tide_27 : decode cX5_tide 27 = .ok (.aload_n 0, 1) := by decide +kernel
theorem dX5_tide_28 : decode cX5_tide 28 = .ok (.getfield 26, 3) := by decide +kernel
theorem dX5_tide_31 : decode cX5_tide 31 = .ok (.getfield 110, 3) := by decide +kernel
theorem dX5_tide_34 : decode cX5_tide 34 = .ok (.iload_n 1, 1) := by decide +kernel
theorem dX5_tide_35 : decode cX5_tide 35 = .ok (.iadd, 1) := by decide +kernel
theorem dX5_tide_36 : decode cX5_tide 36 = .ok (.invokevirtual 113, 3) := by decide +kernel
theorem dX5_tide_39 : decode cX5_tide 39 = .ok (.ireturn, 1) := by decide +kernel
set_option maxRecDepth 20000 in
theorem ggX5_barge_X5_isCell : GoodIn wsX5_barge wsX5_isCell := goodIn_r _ [6] (by decide +kernel) (by decide +kernel)
set_option maxRecDepth 20000 in
theorem gX5_barge_X5_isCell : GoodIn wsX5_barge (va_wsS RX5 89 yX5_isCell wsX5_isCell) := goodIn_app (goodIn_of _ (by decide +kernel)) ggX5_barge_X5_isCell
set_option maxRecDepth 20000 in
theorem ggX5_barge_X5_hasShore : GoodIn wsX5_barge wsX5_hasShore := goodIn_r _ [10, 11, 12, 13, 14, 15, 16, 17, 18, 19, 20, 21] (by decide +kernel) (by decide +kernel)
set_option maxRecDepth 20000 in
theorem gX5_barge_X5_hasShore : GoodIn wsX5_barge (wsV RX5 93 RX5 yX5_hasShore wsX5_hasShore) := goodIn_app (goodIn_of _ (by decide +kernel)) ggX5_barge_X5_hasShore
theorem dX5_barge_0 : decode cX5_barge 0 = .ok (.iload_n 1, 1) := by decide +kernel
theorem dX5_barge_1 : decode cX5_barge 1 = .ok (.iconst (-1), 1) := by decide +kernel
theorem dX5_barge_2 : decode cX5_barge 2 = .ok (.if_icmp .eq 13, 3) := by decide +kernel
theorem dX5_barge_5 : decode cX5_barge 5 = .ok (.iload_n 1, 1) := by decide +kernel
theorem dX5_barge_6 : decode cX5_barge 6 = .ok (.invokestatic 89, 3) := by decide +kernel
theorem dX5_barge_9 : decode cX5_barge 9 = .ok (.ifCond .ne 6, 3) := by decide +kernel
theorem dX5_barge_12 : decode cX5_barge 12 = .ok (.bipush (-101), 2) := by decide +kernel
theorem dX5_barge_14 : decode cX5_barge 14 = .ok (.ireturn, 1) := by decide +kernel
theorem dX5_barge_15 : decode cX5_barge 15 = .ok (.aload_n 0, 1) := by decide +kernel
theorem dX5_barge_16 : decode cX5_barge 16 = .ok (.invokevirtual 93, 3) := by decide +kernel
theorem dX5_barge_19 : decode cX5_barge 19 = .ok (.ifCond .ne 6, 3) := by decide +kernel
theorem dX5_barge_22 : decode cX5_barge 22 = .ok (.bipush (-103), 2) := by decide +kernel
theorem dX5_barge_24 : decode cX5_barge 24 = .ok (.ireturn, 1) := by decide +kernel
theorem dX5_barge_25 : decode cX5_barge 25 = .ok (.aload_n 0, 1) := by decide +kernel
theorem dX5_barge_26 : decode cX5_barge 26 = .ok (.getfield 26, 3) := by decide +kernel
theorem dX5_barge_29 : decode cX5_barge 29 = .ok (.getfield 116, 3) := by decide +kernel
theorem dX5_barge_32 : decode cX5_barge 32 = .ok (.istore_n 2, 1) := by decide +kernel
theorem dX5_barge_33 : decode cX5_barge 33 = .ok (.aload_n 0, 1) := by decide +kernel
theorem dX5_barge_34 : decode cX5_barge 34 = .ok (.getfield 26, 3) := by decide +kernel
theorem dX5_barge_37 : decode cX5_barge 37 = .ok (.iload_n 1, 1) := by decide +kernel
theorem dX5_barge_38 : decode cX5_barge 38 = .ok (.putfield 116, 3) := by decide +kernel
theorem dX5_barge_41 : decode cX5_barge 41 = .ok (.iload_n 2, 1) := by decide +kernel
theorem dX5_barge_42 : decode cX5_barge 42 = .ok (.ireturn, 1) := by decide +kernel
set_option maxRecDepth 20000 in
theorem ggX5_hour_X5_hasShore : GoodIn wsX5_hour wsX5_hasShore := goodIn_r _ [7, 8, 58, 59, 60, 61, 62, 63, 64, 65, 66, 67] (by decide +kernel) (by decide +kernel)
set_option maxRecDepth 20000 in
theorem gX5_hour_X5_hasShore : GoodIn wsX5_hour (wsV RX5 93 RX5 yX5_hasShore wsX5_hasShore) := goodIn_app (goodIn_of _ (by decide +kernel)) ggX5_hour_X5_hasShore
set_option maxRecDepth 20000 in
theorem ggX5_hour_X3_goOn : GoodIn wsX5_hour wsX3_goOn := goodIn_r _ [13, 14, 15, 16, 17, 18, 19, 20, 21, 22, 23, 24, 6, 25, 26, 27, 28, 29, 30, 31, 32, 33, 34, 35, 36, 37, 38, 39, 40, 41, 42, 43, 44, 45, 46, 47, 48, 49, 50, 51, 52, 53, 54, 55, 56, 57, 68, 69, 70, 71, 72, 73, 74, 75, 76, 77, 78, 79, 80] (by decide +kernel) (by decide +kernel)
set_option maxRecDepth 20000 in
theorem gX5_hour_X3_goOn : GoodIn wsX5_hour (wsV RX5 119 RX3 yX3_goOn wsX3_goOn) := goodIn_app (goodIn_of _ (by decide +kernel)) ggX5_hour_X3_goOn
theorem dX5_hour_0 : decode cX5_hour 0 = .ok (.aload_n 0, 1) := by decide +kernel
theorem dX5_hour_1 : decode cX5_hour 1 = .ok (.invokevirtual 93, 3) := by decide +kernel
theorem dX5_hour_4 : decode cX5_hour 4 = .ok (.ifCond .ne 6, 3) := by decide +kernel
theorem dX5_hour_7 : decode cX5_hour 7 = .ok (.bipush (-103), 2) := by decide +kernel
theorem dX5_hour_9 : decode cX5_hour 9 = .ok (.ireturn, 1) := by decide +kernel
theorem dX5_hour_10 : decode cX5_hour 10 = .ok (.aload_n 0, 1) := by decide +kernel
theorem dX5_hour_11 : decode cX5_hour 11 = .ok (.getfield 26, 3) := by decide +kernel
theorem dX5_hour_14 : decode cX5_hour 14 = .ok (.aload_n 0, 1) := by decide +kernel
theorem dX5_hour_15 : decode cX5_hour 15 = .ok (.getfield 19, 3) := by decide +kernel
theorem dX5_hour_18 : decode cX5_hour 18 = .ok (.invokevirtual 119, 3) := by decide +kernel
theorem dX5_hour_21 : decode cX5_hour 21 = .ok (.ireturn, 1) := by decide +kernel
set_option maxRecDepth 20000 in
theorem ggX5_thing_X5_isCell : GoodIn wsX5_thing wsX5_isCell := goodIn_r _ [5] (by decide +kernel) (by decide +kernel)
set_option maxRecDepth 20000 in
theorem gX5_thing_X5_isCell : GoodIn wsX5_thing (va_wsS RX5 89 yX5_isCell wsX5_isCell) := goodIn_app (goodIn_of _ (by decide +kernel)) ggX5_thing_X5_isCell
set_option maxRecDepth 20000 in
theorem ggX5_thing_X5_isKind : GoodIn wsX5_thing wsX5_isKind := goodIn_r _ [8] (by decide +kernel) (by decide +kernel)
set_option maxRecDepth 20000 in
theorem gX5_thing_X5_isKind : GoodIn wsX5_thing (va_wsS RX5 123 yX5_isKind wsX5_isKind) := goodIn_app (goodIn_of _ (by decide +kernel)) ggX5_thing_X5_isKind
set_option maxRecDepth 20000 in
theorem ggX5_thing_X5_hasShore : GoodIn wsX5_thing wsX5_hasShore := goodIn_r _ [12, 13, 23, 24, 25, 26, 27, 28, 29, 30, 31, 32] (by decide +kernel) (by decide +kernel)
set_option maxRecDepth 20000 in
theorem gX5_thing_X5_hasShore : GoodIn wsX5_thing (wsV RX5 93 RX5 yX5_hasShore wsX5_hasShore) := goodIn_app (goodIn_of _ (by decide +kernel)) ggX5_thing_X5_hasShore
set_option maxRecDepth 20000 in
theorem ggX5_thing_X3_addThing : GoodIn wsX5_thing wsX3_addThing := goodIn_r _ [18, 19, 20, 21, 22, 33, 34, 35, 36, 37, 38, 39, 40, 41] (by decide +kernel) (by decide +kernel)
set_option maxRecDepth 20000 in
theorem gX5_thing_X3_addThing : GoodIn wsX5_thing (wsV RX5 126 RX3 yX3_addThing wsX3_addThing) := goodIn_app (goodIn_of _ (by decide +kernel)) ggX5_thing_X3_addThing
theorem dX5_thing_0 : decode cX5_thing 0 = .ok (.iload_n 2, 1) := by decide +kernel
theorem dX5_thing_1 : decode cX5_thing 1 = .ok (.invokestatic 89, 3) := by decide +kernel
theorem dX5_thing_4 : decode cX5_thing 4 = .ok (.ifCond .ne 6, 3) := by decide +kernel
theorem dX5_thing_7 : decode cX5_thing 7 = .ok (.bipush (-101), 2) := by decide +kernel
theorem dX5_thing_9 : decode cX5_thing 9 = .ok (.ireturn, 1) := by decide +kernel
theorem dX5_thing_10 : decode cX5_thing 10 = .ok (.iload_n 1, 1) := by decide +kernel
theorem dX5_thing_11 : decode cX5_thing 11 = .ok (.invokestatic 123, 3) := by decide +kernel
theorem dX5_thing_14 : decode cX5_thing 14 = .ok (.ifCond .eq 14, 3) := by decide +kernel
theorem dX5_thing_17 : decode cX5_thing 17 = .ok (.iload_n 3, 1) := by decide +kernel
theorem dX5_thing_18 : decode cX5_thing 18 = .ok (.iconst 1, 1) := by decide +kernel
theorem dX5_thing_19 : decode cX5_thing 19 = .ok (.if_icmp .lt 9, 3) := by decide +kernel
theorem dX5_thing_22 : decode cX5_thing 22 = .ok (.iload_n 3, 1) := by decide +kernel
theorem dX5_thing_23 : decode cX5_thing 23 = .ok (.bipush 50, 2) := by decide +kernel
theorem dX5_thing_25 : decode cX5_thing 25 = .ok (.if_icmp .le 6, 3) := by decide +kernel
theorem dX5_thing_28 : decode cX5_thing 28 = .ok (.bipush (-102), 2) := by decide +kernel
theorem dX5_thing_30 : decode cX5_thing 30 = .ok (.ireturn, 1) := by decide +kernel
theorem dX5_thing_31 : decode cX5_thing 31 = .ok (.aload_n 0, 1) := by decide +kernel
theorem dX5_thing_32 : decode cX5_thing 32 = .ok (.invokevirtual 93, 3) := by decide +kernel
theorem dX5_thing_35 : decode cX5_thing 35 = .ok (.ifCond .ne 6, 3) := by decide +kernel
theorem dX5_thing_38 : decode cX5_thing 38 = .ok (.bipush (-103), 2) := by decide +kernel
theorem dX5_thing_40 : decode cX5_thing 40 = .ok (.ireturn, 1) := by decide +kernel
theorem dX5_thing_41 : decode cX5_thing 41 = .ok (.aload_n 0, 1) := by decide +kernel
theorem dX5_thing_42 : decode cX5_thing 42 = .ok (.getfield 26, 3) := by decide +kernel
theorem dX5_thing_45 : decode cX5_thing 45 = .ok (.iload_n 1, 1) := by decide +kernel
theorem dX5_thing_46 : decode cX5_thing 46 = .ok (.iload_n 2, 1) := by decide +kernel
theorem dX5_thing_47 : decode cX5_thing 47 = .ok (.iload_n 3, 1) := by decide +kernel
theorem dX5_thing_48 : decode cX5_thing 48 = .ok (.invokevirtual 126, 3) := by decide +kernel
theorem dX5_thing_51 : decode cX5_thing 51 = .ok (.ireturn, 1) := by decide +kernel
set_option maxRecDepth 20000 in
theorem ggX5_about_X3_isThing : GoodIn wsX5_about wsX3_isThing := goodIn_r _ [10, 11, 39, 40, 41, 42, 43, 44, 45, 46, 47] (by decide +kernel) (by decide +kernel)
set_option maxRecDepth 20000 in
theorem gX5_about_X3_isThing : GoodIn wsX5_about (wsV RX5 130 RX3 yX3_isThing wsX3_isThing) := goodIn_app (goodIn_of _ (by decide +kernel)) ggX5_about_X3_isThing
set_option maxRecDepth 20000 in
theorem ggX5_about_X4_nearestStair : GoodIn wsX5_about wsX4_nearestStair := goodIn_r _ [16, 17, 18, 19, 20, 21, 22, 23, 24, 25, 26, 15, 27, 28, 48, 49, 50, 51] (by decide +kernel) (by decide +kernel)
set_option maxRecDepth 20000 in
theorem gX5_about_X4_nearestStair : GoodIn wsX5_about (wsV RX5 142 RX4 yX4_nearestStair wsX4_nearestStair) := goodIn_app (goodIn_of _ (by decide +kernel)) ggX5_about_X4_nearestStair
theorem dX5_about_0 : decode cX5_about 0 = .ok (.aload_n 0, 1) := by decide +kernel
theorem dX5_about_1 : decode cX5_about 1 = .ok (.getfield 26, 3) := by decide +kernel
theorem dX5_about_4 : decode cX5_about 4 = .ok (.iload_n 1, 1) := by decide +kernel
theorem dX5_about_5 : decode cX5_about 5 = .ok (.invokevirtual 130, 3) := by decide +kernel
theorem dX5_about_8 : decode cX5_about 8 = .ok (.ifCond .ne 6, 3) := by decide +kernel
theorem dX5_about_11 : decode cX5_about 11 = .ok (.bipush (-101), 2) := by decide +kernel
theorem dX5_about_13 : decode cX5_about 13 = .ok (.ireturn, 1) := by decide +kernel
theorem dX5_about_14 : decode cX5_about 14 = .ok (.iload_n 2, 1) := by decide +kernel
theorem dX5_about_15 : decode cX5_about 15 = .ok (.tableswitch 77 0 3 #[29, 39, 49, 59], 29) := by decide +kernel
theorem dX5_about_44 : decode cX5_about 44 = .ok (.aload_n 0, 1) := by decide +kernel
theorem dX5_about_45 : decode cX5_about 45 = .ok (.getfield 26, 3) := by decide +kernel
theorem dX5_about_48 : decode cX5_about 48 = .ok (.getfield 133, 3) := by decide +kernel
theorem dX5_about_51 : decode cX5_about 51 = .ok (.iload_n 1, 1) := by decide +kernel
theorem dX5_about_52 : decode cX5_about 52 = .ok (.iaload, 1) := by decide +kernel
theorem dX5_about_53 : decode cX5_about 53 = .ok (.ireturn, 1) := by decide +kernel
theorem dX5_about_54 : decode cX5_about 54 = .ok (.aload_n 0, 1) := by decide +kernel
theorem dX5_about_55 : decode cX5_about 55 = .ok (.getfield 26, 3) := by decide +kernel
theorem dX5_about_58 : decode cX5_about 58 = .ok (.getfield 136, 3) := by decide +kernel
theorem dX5_about_61 : decode cX5_about 61 = .ok (.iload_n 1, 1) := by decide +kernel
theorem dX5_about_62 : decode cX5_about 62 = .ok (.iaload, 1) := by decide +kernel
theorem dX5_about_63 : decode cX5_about 63 = .ok (.ireturn, 1) := by decide +kernel
theorem dX5_about_64 : decode cX5_about 64 = .ok (.aload_n 0, 1) := by decide +kernel
theorem dX5_about_65 : decode cX5_about 65 = .ok (.getfield 26, 3) := by decide +kernel
theorem dX5_about_68 : decode cX5_about 68 = .ok (.getfield 139, 3) := by decide +kernel
theorem dX5_about_71 : decode cX5_about 71 = .ok (.iload_n 1, 1) := by decide +kernel
theorem dX5_about_72 : decode cX5_about 72 = .ok (.iaload, 1) := by decide +kernel
theorem dX5_about_73 : decode cX5_about 73 = .ok (.ireturn, 1) := by decide +kernel
theorem dX5_about_74 : decode cX5_about 74 = .ok (.aload_n 0, 1) := by decide +kernel
theorem dX5_about_75 : decode cX5_about 75 = .ok (.getfield 19, 3) := by decide +kernel
theorem dX5_about_78 : decode cX5_about 78 = .ok (.aload_n 0, 1) := by decide +kernel
theorem dX5_about_79 : decode cX5_about 79 = .ok (.getfield 26, 3) := by decide +kernel
theorem dX5_about_82 : decode cX5_about 82 = .ok (.getfield 136, 3) := by decide +kernel
theorem dX5_about_85 : decode cX5_about 85 = .ok (.iload_n 1, 1) := by decide +kernel
theorem dX5_about_86 : decode cX5_about 86 = .ok (.iaload, 1) := by decide +kernel
theorem dX5_about_87 : decode cX5_about 87 = .ok (.iconst (-1), 1) := by decide +kernel
theorem dX5_about_88 : decode cX5_about 88 = .ok (.invokevirtual 142, 3) := by decide +kernel
theorem dX5_about_91 : decode cX5_about 91 = .ok (.ireturn, 1) := by decide +kernel
theorem dX5_about_92 : decode cX5_about 92 = .ok (.bipush (-102), 2) := by decide +kernel
theorem dX5_about_94 : decode cX5_about 94 = .ok (.ireturn, 1) := by decide +kernel
set_option maxRecDepth 20000 in
theorem ggX5_as_X3_isThing : GoodIn wsX5_as wsX3_isThing := goodIn_r _ [7, 8, 26, 27, 28, 29, 30, 31, 32, 33, 34] (by decide +kernel) (by decide +kernel)
set_option maxRecDepth 20000 in
theorem gX5_as_X3_isThing : GoodIn wsX5_as (wsV RX5 130 RX3 yX3_isThing wsX3_isThing) := goodIn_app (goodIn_of _ (by decide +kernel)) ggX5_as_X3_isThing
set_option maxRecDepth 20000 in
theorem ggX5_as_X5_isKind : GoodIn wsX5_as wsX5_isKind := goodIn_r _ [12] (by decide +kernel) (by decide +kernel)
set_option maxRecDepth 20000 in
theorem gX5_as_X5_isKind : GoodIn wsX5_as (va_wsS RX5 123 yX5_isKind wsX5_isKind) := goodIn_app (goodIn_of _ (by decide +kernel)) ggX5_as_X5_isKind
set_option maxRecDepth 20000 in
theorem ggX5_as_X5_isOfKind : GoodIn wsX5_as wsX5_isOfKind := goodIn_r _ [15] (by decide +kernel) (by decide +kernel)
set_option maxRecDepth 20000 in
theorem gX5_as_X5_isOfKind : GoodIn wsX5_as (va_wsS RX5 146 yX5_isOfKind wsX5_isOfKind) := goodIn_app (goodIn_of _ (by decide +kernel)) ggX5_as_X5_isOfKind
theorem dX5_as_0 : decode cX5_as 0 = .ok (.aload_n 0, 1) := by decide +kernel
theorem dX5_as_1 : decode cX5_as 1 = .ok (.getfield 26, 3) := by decide +kernel
theorem dX5_as_4 : decode cX5_as 4 = .ok (.iload_n 1, 1) := by decide +kernel
theorem dX5_as_5 : decode cX5_as 5 = .ok (.invokevirtual 130, 3) := by decide +kernel
theorem dX5_as_8 : decode cX5_as 8 = .ok (.ifCond .ne 6, 3) := by decide +kernel
theorem dX5_as_11 : decode cX5_as 11 = .ok (.bipush (-101), 2) := by decide +kernel
theorem dX5_as_13 : decode cX5_as 13 = .ok (.ireturn, 1) := by decide +kernel
theorem dX5_as_14 : decode cX5_as 14 = .ok (.iload_n 2, 1) := by decide +kernel
theorem dX5_as_15 : decode cX5_as 15 = .ok (.invokestatic 123, 3) := by decide +kernel
theorem dX5_as_18 : decode cX5_as 18 = .ok (.ifCond .ne 6, 3) := by decide +kernel
theorem dX5_as_21 : decode cX5_as 21 = .ok (.bipush (-102), 2) := by decide +kernel
theorem dX5_as_23 : decode cX5_as 23 = .ok (.ireturn, 1) := by decide +kernel
theorem dX5_as_24 : decode cX5_as 24 = .ok (.aload_n 0, 1) := by decide +kernel
theorem dX5_as_25 : decode cX5_as 25 = .ok (.getfield 26, 3) := by decide +kernel
theorem dX5_as_28 : decode cX5_as 28 = .ok (.getfield 133, 3) := by decide +kernel
theorem dX5_as_31 : decode cX5_as 31 = .ok (.iload_n 1, 1) := by decide +kernel
theorem dX5_as_32 : decode cX5_as 32 = .ok (.iaload, 1) := by decide +kernel
theorem dX5_as_33 : decode cX5_as 33 = .ok (.iload_n 2, 1) := by decide +kernel
theorem dX5_as_34 : decode cX5_as 34 = .ok (.invokestatic 146, 3) := by decide +kernel
theorem dX5_as_37 : decode cX5_as 37 = .ok (.ifCond .eq 7, 3) := by decide +kernel
theorem dX5_as_40 : decode cX5_as 40 = .ok (.iload_n 1, 1) := by decide +kernel
theorem dX5_as_41 : decode cX5_as 41 = .ok (.goto 4, 3) := by decide +kernel
theorem dX5_as_44 : decode cX5_as 44 = .ok (.iconst (-1), 1) := by decide +kernel
theorem dX5_as_45 : decode cX5_as 45 = .ok (.ireturn, 1) := by decide +kernel
set_option maxRecDepth 20000 in
theorem ggX5_take_X5_isCell : GoodIn wsX5_take wsX5_isCell := goodIn_r _ [5] (by decide +kernel) (by decide +kernel)
set_option maxRecDepth 20000 in
theorem gX5_take_X5_isCell : GoodIn wsX5_take (va_wsS RX5 89 yX5_isCell wsX5_isCell) := goodIn_app (goodIn_of _ (by decide +kernel)) ggX5_take_X5_isCell
set_option maxRecDepth 20000 in
theorem ggX5_take_X5_hasShore : GoodIn wsX5_take wsX5_hasShore := goodIn_r _ [9, 10, 53, 54, 55, 56, 57, 58, 59, 60, 61, 62] (by decide +kernel) (by decide +kernel)
set_option maxRecDepth 20000 in
theorem gX5_take_X5_hasShore : GoodIn wsX5_take (wsV RX5 93 RX5 yX5_hasShore wsX5_hasShore) := goodIn_app (goodIn_of _ (by decide +kernel)) ggX5_take_X5_hasShore
set_option maxRecDepth 20000 in
theorem ggX5_take_X5_isDryNow : GoodIn wsX5_take wsX5_isDryNow := goodIn_r _ [14, 15, 1, 16, 17, 18, 19, 20, 21, 22, 3, 4, 5, 23, 24, 25, 26, 27, 28, 29, 30, 31, 32, 33, 34, 35, 36, 37, 38, 39, 40, 41, 42, 43, 44, 53, 54, 55, 56, 57, 58, 59, 60, 61, 62, 63, 64, 65, 66, 67, 68, 69, 70, 71, 72, 73, 74, 75] (by decide +kernel) (by decide +kernel)
set_option maxRecDepth 20000 in
theorem gX5_take_X5_isDryNow : GoodIn wsX5_take (wsV RX5 103 RX5 yX5_isDryNow wsX5_isDryNow) := goodIn_app (goodIn_of _ (by decide +kernel)) ggX5_take_X5_isDryNow
set_option maxRecDepth 20000 in
theorem ggX5_take_X3_takeAllIn : GoodIn wsX5_take wsX3_takeAllIn := goodIn_r _ [49, 50, 51, 52, 63, 64, 65, 66, 67, 68, 69, 70, 71] (by decide +kernel) (by decide +kernel)
set_option maxRecDepth 20000 in
theorem gX5_take_X3_takeAllIn : GoodIn wsX5_take (wsV RX5 150 RX3 yX3_takeAllIn wsX3_takeAllIn) := goodIn_app (goodIn_of _ (by decide +kernel)) ggX5_take_X3_takeAllIn
theorem dX5_take_0 : decode cX5_take 0 = .ok (.iload_n 1, 1) := by decide +kernel
theorem dX5_take_1 : decode cX5_take 1 = .ok (.invokestatic 89, 3) := by decide +kernel
theorem dX5_take_4 : decode cX5_take 4 = .ok (.ifCond .ne 6, 3) := by decide +kernel
theorem dX5_take_7 : decode cX5_take 7 = .ok (.bipush (-101), 2) := by decide +kernel
theorem dX5_take_9 : decode cX5_take 9 = .ok (.ireturn, 1) := by decide +kernel
theorem dX5_take_10 : decode cX5_take 10 = .ok (.aload_n 0, 1) := by decide +kernel
theorem dX5_take_11 : decode cX5_take 11 = .ok (.invokevirtual 93, 3) := by decide +kernel
theorem dX5_take_14 : decode cX5_take 14 = .ok (.ifCond .eq 11, 3) := by decide +kernel
theorem dX5_take_17 : decode cX5_take 17 = .ok (.aload_n 0, 1) := by decide +kernel
theorem dX5_take_18 : decode cX5_take 18 = .ok (.iload_n 1, 1) := by decide +kernel
theorem dX5_take_19 : decode cX5_take 19 = .ok (.invokevirtual 103, 3) := by decide +kernel
theorem dX5_take_22 : decode cX5_take 22 = .ok (.ifCond .ne 6, 3) := by decide +kernel
theorem dX5_take_25 : decode cX5_take 25 = .ok (.bipush (-103), 2) := by decide +kernel
theorem dX5_take_27 : decode cX5_take 27 = .ok (.ireturn, 1) := by decide +kernel
theorem dX5_take_28 : decode cX5_take 28 = .ok (.aload_n 0, 1) := by decide +kernel
theorem dX5_take_29 : decode cX5_take 29 = .ok (.getfield 26, 3) := by decide +kernel
theorem dX5_take_32 : decode cX5_take 32 = .ok (.iload_n 1, 1) := by decide +kernel
theorem dX5_take_33 : decode cX5_take 33 = .ok (.invokevirtual 150, 3) := by decide +kernel
theorem dX5_take_36 : decode cX5_take 36 = .ok (.ireturn, 1) := by decide +kernel
set_option maxRecDepth 20000 in
theorem ggX5_share_X5_isCell : GoodIn wsX5_share wsX5_isCell := goodIn_r _ [6] (by decide +kernel) (by decide +kernel)
set_option maxRecDepth 20000 in
theorem gX5_share_X5_isCell : GoodIn wsX5_share (va_wsS RX5 89 yX5_isCell wsX5_isCell) := goodIn_app (goodIn_of _ (by decide +kernel)) ggX5_share_X5_isCell
set_option maxRecDepth 20000 in
theorem ggX5_share_X4_hasStair : GoodIn wsX5_share wsX4_hasStair := goodIn_r _ [11, 12, 4, 5, 6, 40, 41, 42, 43] (by decide +kernel) (by decide +kernel)
set_option maxRecDepth 20000 in
theorem gX5_share_X4_hasStair : GoodIn wsX5_share (wsV RX5 100 RX4 yX4_hasStair wsX4_hasStair) := goodIn_app (goodIn_of _ (by decide +kernel)) ggX5_share_X4_hasStair
set_option maxRecDepth 20000 in
theorem ggX5_share_X3_worthBelonging : GoodIn wsX5_share wsX3_worthBelonging := goodIn_r _ [17, 18, 19, 20, 21, 22, 23, 10, 24, 25, 26, 27, 28, 4, 5, 6, 29, 8, 9, 11, 12, 44, 45, 46, 47, 48, 49, 50, 51, 52, 40, 41, 42, 43] (by decide +kernel) (by decide +kernel)
set_option maxRecDepth 20000 in
theorem gX5_share_X3_worthBelonging : GoodIn wsX5_share (wsV RX5 153 RX3 yX3_worthBelonging wsX3_worthBelonging) := goodIn_app (goodIn_of _ (by decide +kernel)) ggX5_share_X3_worthBelonging
theorem dX5_share_0 : decode cX5_share 0 = .ok (.iload_n 1, 1) := by decide +kernel
theorem dX5_share_1 : decode cX5_share 1 = .ok (.invokestatic 89, 3) := by decide +kernel
theorem dX5_share_4 : decode cX5_share 4 = .ok (.ifCond .eq 14, 3) := by decide +kernel
theorem dX5_share_7 : decode cX5_share 7 = .ok (.aload_n 0, 1) := by decide +kernel
theorem dX5_share_8 : decode cX5_share 8 = .ok (.getfield 19, 3) := by decide +kernel
theorem dX5_share_11 : decode cX5_share 11 = .ok (.iload_n 1, 1) := by decide +kernel
theorem dX5_share_12 : decode cX5_share 12 = .ok (.invokevirtual 100, 3) := by decide +kernel
theorem dX5_share_15 : decode cX5_share 15 = .ok (.ifCond .ne 6, 3) := by decide +kernel
theorem dX5_share_18 : decode cX5_share 18 = .ok (.bipush (-101), 2) := by decide +kernel
theorem dX5_share_20 : decode cX5_share 20 = .ok (.ireturn, 1) := by decide +kernel
theorem dX5_share_21 : decode cX5_share 21 = .ok (.aload_n 0, 1) := by decide +kernel
theorem dX5_share_22 : decode cX5_share 22 = .ok (.getfield 26, 3) := by decide +kernel
theorem dX5_share_25 : decode cX5_share 25 = .ok (.aload_n 0, 1) := by decide +kernel
theorem dX5_share_26 : decode cX5_share 26 = .ok (.getfield 19, 3) := by decide +kernel
theorem dX5_share_29 : decode cX5_share 29 = .ok (.iload_n 1, 1) := by decide +kernel
theorem dX5_share_30 : decode cX5_share 30 = .ok (.iconst (-1), 1) := by decide +kernel
theorem dX5_share_31 : decode cX5_share 31 = .ok (.invokevirtual 153, 3) := by decide +kernel
theorem dX5_share_34 : decode cX5_share 34 = .ok (.ireturn, 1) := by decide +kernel
set_option maxRecDepth 20000 in
theorem ggX5_best_X5_isCell : GoodIn wsX5_best wsX5_isCell := goodIn_r _ [10] (by decide +kernel) (by decide +kernel)
set_option maxRecDepth 20000 in
theorem gX5_best_X5_isCell : GoodIn wsX5_best (va_wsS RX5 89 yX5_isCell wsX5_isCell) := goodIn_app (goodIn_of _ (by decide +kernel)) ggX5_best_X5_isCell
set_option maxRecDepth 20000 in
theorem ggX5_best_X5_hasShore : GoodIn wsX5_best wsX5_hasShore := goodIn_r _ [14, 15, 117, 118, 119, 120, 121, 122, 123, 124, 125, 126] (by decide +kernel) (by decide +kernel)
set_option maxRecDepth 20000 in
theorem gX5_best_X5_hasShore : GoodIn wsX5_best (wsV RX5 93 RX5 yX5_hasShore wsX5_hasShore) := goodIn_app (goodIn_of _ (by decide +kernel)) ggX5_best_X5_hasShore
set_option maxRecDepth 20000 in
theorem ggX5_best_X3_copyFrom : GoodIn wsX5_best wsX3_copyFrom := goodIn_r _ [20, 21, 22, 23, 24, 25, 26, 27, 28, 29, 30, 31, 32, 33, 133, 134, 135, 136, 137, 138, 139, 140, 141] (by decide +kernel) (by decide +kernel)
set_option maxRecDepth 20000 in
theorem gX5_best_X3_copyFrom : GoodIn wsX5_best (wsV RX5 157 RX3 yX3_copyFrom wsX3_copyFrom) := goodIn_app (goodIn_of _ (by decide +kernel)) ggX5_best_X3_copyFrom
set_option maxRecDepth 20000 in
theorem ggX5_best_X0_lookAhead : GoodIn wsX5_best wsX0_lookAhead := goodIn_r _ [38, 39, 40, 41, 42, 43, 44, 45, 46, 47, 48, 49, 23, 24, 25, 50, 51, 52, 53, 54, 55, 56, 8, 9, 10, 57, 58, 59, 37, 60, 61, 62, 63, 64, 65, 66, 67, 68, 69, 70, 71, 72, 73, 74, 75, 76, 77, 78, 79, 80, 81, 82, 83, 84, 85, 86, 87, 88, 89, 90, 91, 92, 19, 93, 29, 21, 26, 31, 30, 94, 95, 96, 97, 98, 99, 100, 101, 102, 103, 104, 127, 128, 129, 130, 131, 132, 133, 134, 135, 136, 137, 138, 139, 140, 141, 142, 143, 144, 145] (by decide +kernel) (by decide +kernel)
set_option maxRecDepth 20000 in
theorem gX5_best_X0_lookAhead : GoodIn wsX5_best (wsV RX5 161 RX0 yX0_lookAhead wsX0_lookAhead) := goodIn_app (goodIn_of _ (by decide +kernel)) ggX5_best_X0_lookAhead
set_option maxRecDepth 20000 in
theorem ggX5_best_X0_bestFrom : GoodIn wsX5_best wsX0_bestFrom := goodIn_r _ [108, 109, 50, 62, 46, 61, 8, 9, 10, 110, 111, 112, 37, 113, 48, 114, 115, 116, 43, 44, 41, 45, 127, 128, 129, 130, 131, 132] (by decide +kernel) (by decide +kernel)
set_option maxRecDepth 20000 in
theorem gX5_best_X0_bestFrom : GoodIn wsX5_best (wsV RX5 165 RX0 yX0_bestFrom wsX0_bestFrom) := goodIn_app (goodIn_of _ (by decide +kernel)) ggX5_best_X0_bestFrom
theorem dX5_best_0 : decode cX5_best 0 = .ok (.iload_n 1, 1) := by decide +kernel
theorem dX5_best_1 : decode cX5_best 1 = .ok (.invokestatic 89, 3) := by decide +kernel
theorem dX5_best_4 : decode cX5_best 4 = .ok (.ifCond .ne 6, 3) := by decide +kernel
theorem dX5_best_7 : decode cX5_best 7 = .ok (.bipush (-101), 2) := by decide +kernel
theorem dX5_best_9 : decode cX5_best 9 = .ok (.ireturn, 1) := by decide +kernel
theorem dX5_best_10 : decode cX5_best 10 = .ok (.iload_n 2, 1) := by decide +kernel
theorem dX5_best_11 : decode cX5_best 11 = .ok (.ifCond .lt 18, 3) := by decide +kernel
theorem dX5_best_14 : decode cX5_best 14 = .ok (.iload_n 2, 1) := by decide +kernel
theorem dX5_best_15 : decode cX5_best 15 = .ok (.bipush 7, 2) := by decide +kernel
theorem dX5_best_17 : decode cX5_best 17 = .ok (.if_icmp .gt 12, 3) := by decide +kernel
theorem dX5_best_20 : decode cX5_best 20 = .ok (.iload_n 3, 1) := by decide +kernel
theorem dX5_best_21 : decode cX5_best 21 = .ok (.ifCond .lt 8, 3) := by decide +kernel
theorem dX5_best_24 : decode cX5_best 24 = .ok (.iload_n 3, 1) := by decide +kernel
theorem dX5_best_25 : decode cX5_best 25 = .ok (.iconst 1, 1) := by decide +kernel
theorem dX5_best_26 : decode cX5_best 26 = .ok (.if_icmp .le 6, 3) := by decide +kernel
theorem dX5_best_29 : decode cX5_best 29 = .ok (.bipush (-102), 2) := by decide +kernel
theorem dX5_best_31 : decode cX5_best 31 = .ok (.ireturn, 1) := by decide +kernel
theorem dX5_best_32 : decode cX5_best 32 = .ok (.aload_n 0, 1) := by decide +kernel
theorem dX5_best_33 : decode cX5_best 33 = .ok (.invokevirtual 93, 3) := by decide +kernel
theorem dX5_best_36 : decode cX5_best 36 = .ok (.ifCond .eq 12, 3) := by decide +kernel
theorem dX5_best_39 : decode cX5_best 39 = .ok (.aload_n 0, 1) := by decide +kernel
theorem dX5_best_40 : decode cX5_best 40 = .ok (.getfield 54, 3) := by decide +kernel
theorem dX5_best_43 : decode cX5_best 43 = .ok (.bipush 40, 2) := by decide +kernel
theorem dX5_best_45 : decode cX5_best 45 = .ok (.if_icmp .lt 6, 3) := by decide +kernel
theorem dX5_best_48 : decode cX5_best 48 = .ok (.bipush (-103), 2) := by decide +kernel
theorem dX5_best_50 : decode cX5_best 50 = .ok (.ireturn, 1) := by decide +kernel
theorem dX5_best_51 : decode cX5_best 51 = .ok (.aload_n 0, 1) := by decide +kernel
theorem dX5_best_52 : decode cX5_best 52 = .ok (.dup, 1) := by decide +kernel
theorem dX5_best_53 : decode cX5_best 53 = .ok (.getfield 54, 3) := by decide +kernel
theorem dX5_best_56 : decode cX5_best 56 = .ok (.iconst 1, 1) := by decide +kernel
theorem dX5_best_57 : decode cX5_best 57 = .ok (.iadd, 1) := by decide +kernel
theorem dX5_best_58 : decode cX5_best 58 = .ok (.putfield 54, 3) := by decide +kernel
theorem dX5_best_61 : decode cX5_best 61 = .ok (.aload_n 0, 1) := by decide +kernel
theorem dX5_best_62 : decode cX5_best 62 = .ok (.getfield 33, 3) := by decide +kernel
theorem dX5_best_65 : decode cX5_best 65 = .ok (.aload_n 0, 1) := by decide +kernel
theorem dX5_best_66 : decode cX5_best 66 = .ok (.getfield 26, 3) := by decide +kernel
theorem dX5_best_69 : decode cX5_best 69 = .ok (.invokevirtual 157, 3) := by decide +kernel
theorem dX5_best_72 : decode cX5_best 72 = .ok (.aload_n 0, 1) := by decide +kernel
theorem dX5_best_73 : decode cX5_best 73 = .ok (.getfield 46, 3) := by decide +kernel
theorem dX5_best_76 : decode cX5_best 76 = .ok (.aload_n 0, 1) := by decide +kernel
theorem dX5_best_77 : decode cX5_best 77 = .ok (.getfield 33, 3) := by decide +kernel
theorem dX5_best_80 : decode cX5_best 80 = .ok (.aload_n 0, 1) := by decide +kernel
theorem dX5_best_81 : decode cX5_best 81 = .ok (.getfield 19, 3) := by decide +kernel
theorem dX5_best_84 : decode cX5_best 84 = .ok (.iload_n 2, 1) := by decide +kernel
theorem dX5_best_85 : decode cX5_best 85 = .ok (.invokevirtual 161, 3) := by decide +kernel
theorem dX5_best_88 : decode cX5_best 88 = .ok (.aload_n 0, 1) := by decide +kernel
theorem dX5_best_89 : decode cX5_best 89 = .ok (.getfield 46, 3) := by decide +kernel
theorem dX5_best_92 : decode cX5_best 92 = .ok (.iload_n 1, 1) := by decide +kernel
theorem dX5_best_93 : decode cX5_best 93 = .ok (.invokevirtual 165, 3) := by decide +kernel
theorem dX5_best_96 : decode cX5_best 96 = .ok (.istore 4, 2) := by decide +kernel
theorem dX5_best_98 : decode cX5_best 98 = .ok (.iload_n 3, 1) := by decide +kernel
theorem dX5_best_99 : decode cX5_best 99 = .ok (.ifCond .ne 8, 3) := by decide +kernel
theorem dX5_best_102 : decode cX5_best 102 = .ok (.iload 4, 2) := by decide +kernel
theorem dX5_best_104 : decode cX5_best 104 = .ok (.goto 10, 3) := by decide +kernel
theorem dX5_best_107 : decode cX5_best 107 = .ok (.aload_n 0, 1) := by decide +kernel
theorem dX5_best_108 : decode cX5_best 108 = .ok (.getfield 46, 3) := by decide +kernel
theorem dX5_best_111 : decode cX5_best 111 = .ok (.getfield 168, 3) := by decide +kernel
theorem dX5_best_114 : decode cX5_best 114 = .ok (.ireturn, 1) := by decide +kernel
set_option maxRecDepth 20000 in
theorem ggX5_whence_X5_isKind : GoodIn wsX5_whence wsX5_isKind := goodIn_r _ [6] (by decide +kernel) (by decide +kernel)
set_option maxRecDepth 20000 in
theorem gX5_whence_X5_isKind : GoodIn wsX5_whence (va_wsS RX5 123 yX5_isKind wsX5_isKind) := goodIn_app (goodIn_of _ (by decide +kernel)) ggX5_whence_X5_isKind
set_option maxRecDepth 20000 in
theorem ggX5_whence_X5_isCell : GoodIn wsX5_whence wsX5_isCell := goodIn_r _ [9] (by decide +kernel) (by decide +kernel)
set_option maxRecDepth 20000 in
theorem gX5_whence_X5_isCell : GoodIn wsX5_whence (va_wsS RX5 89 yX5_isCell wsX5_isCell) := goodIn_app (goodIn_of _ (by decide +kernel)) ggX5_whence_X5_isCell
set_option maxRecDepth 20000 in
theorem ggX5_whence_X5_hasShore : GoodIn wsX5_whence wsX5_hasShore := goodIn_r _ [13, 14, 56, 57, 58, 59, 60, 61, 62, 63, 64, 65] (by decide +kernel) (by decide +kernel)
set_option maxRecDepth 20000 in
theorem gX5_whence_X5_hasShore : GoodIn wsX5_whence (wsV RX5 93 RX5 yX5_hasShore wsX5_hasShore) := goodIn_app (goodIn_of _ (by decide +kernel)) ggX5_whence_X5_hasShore
set_option maxRecDepth 20000 in
theorem ggX5_whence_X5_placeNow : GoodIn wsX5_whence wsX5_placeNow := goodIn_r _ [18, 1, 2, 19, 20, 21, 22, 23, 24, 25, 4, 5, 6, 8, 9, 26, 27, 28, 29, 30, 31, 32, 33, 34, 35, 36, 37, 38, 39, 40, 41, 42, 43, 44, 45, 46, 47, 48, 49, 50, 51, 52, 53, 54, 55, 56, 57, 58, 59, 60, 61, 62, 63, 64, 65, 66, 67, 68, 69, 70, 71, 72, 73, 74, 75, 76, 77, 78] (by decide +kernel) (by decide +kernel)
set_option maxRecDepth 20000 in
theorem gX5_whence_X5_placeNow : GoodIn wsX5_whence (wsV RX5 171 RX5 yX5_placeNow wsX5_placeNow) := goodIn_app (goodIn_of _ (by decide +kernel)) ggX5_whence_X5_placeNow
theorem dX5_whence_0 : decode cX5_whence 0 = .ok (.iload_n 1, 1) := by decide +kernel
theorem dX5_whence_1 : decode cX5_whence 1 = .ok (.invokestatic 123, 3) := by decide +kernel
theorem dX5_whence_4 : decode cX5_whence 4 = .ok (.ifCond .ne 6, 3) := by decide +kernel
theorem dX5_whence_7 : decode cX5_whence 7 = .ok (.bipush (-102), 2) := by decide +kernel
theorem dX5_whence_9 : decode cX5_whence 9 = .ok (.ireturn, 1) := by decide +kernel
theorem dX5_whence_10 : decode cX5_whence 10 = .ok (.iload_n 2, 1) := by decide +kernel
theorem dX5_whence_11 : decode cX5_whence 11 = .ok (.invokestatic 89, 3) := by decide +kernel
theorem dX5_whence_14 : decode cX5_whence 14 = .ok (.ifCond .ne 6, 3) := by decide +kernel
theorem dX5_whence_17 : decode cX5_whence 17 = .ok (.bipush (-101), 2) := by decide +kernel
theorem dX5_whence_19 : decode cX5_whence 19 = .ok (.ireturn, 1) := by decide +kernel
theorem dX5_whence_20 : decode cX5_whence 20 = .ok (.iload_n 3, 1) := by decide +kernel
theorem dX5_whence_21 : decode cX5_whence 21 = .ok (.iconst 1, 1) := by decide +kernel
theorem dX5_whence_22 : decode cX5_whence 22 = .ok (.if_icmp .lt 9, 3) := by decide +kernel
theorem dX5_whence_25 : decode cX5_whence 25 = .ok (.iload_n 3, 1) := by decide +kernel
theorem dX5_whence_26 : decode cX5_whence 26 = .ok (.bipush 12, 2) := by decide +kernel
theorem dX5_whence_28 : decode cX5_whence 28 = .ok (.if_icmp .le 6, 3) := by decide +kernel
theorem dX5_whence_31 : decode cX5_whence 31 = .ok (.bipush (-102), 2) := by decide +kernel
theorem dX5_whence_33 : decode cX5_whence 33 = .ok (.ireturn, 1) := by decide +kernel
theorem dX5_whence_34 : decode cX5_whence 34 = .ok (.aload_n 0, 1) := by decide +kernel
theorem dX5_whence_35 : decode cX5_whence 35 = .ok (.invokevirtual 93, 3) := by decide +kernel
theorem dX5_whence_38 : decode cX5_whence 38 = .ok (.ifCond .eq 14, 3) := by decide +kernel
theorem dX5_whence_41 : decode cX5_whence 41 = .ok (.iload_n 3, 1) := by decide +kernel
theorem dX5_whence_42 : decode cX5_whence 42 = .ok (.aload_n 0, 1) := by decide +kernel
theorem dX5_whence_43 : decode cX5_whence 43 = .ok (.getfield 26, 3) := by decide +kernel
theorem dX5_whence_46 : decode cX5_whence 46 = .ok (.getfield 110, 3) := by decide +kernel
theorem dX5_whence_49 : decode cX5_whence 49 = .ok (.if_icmp .le 6, 3) := by decide +kernel
theorem dX5_whence_52 : decode cX5_whence 52 = .ok (.bipush (-103), 2) := by decide +kernel
theorem dX5_whence_54 : decode cX5_whence 54 = .ok (.ireturn, 1) := by decide +kernel
theorem dX5_whence_55 : decode cX5_whence 55 = .ok (.iconst 0, 1) := by decide +kernel
theorem dX5_whence_56 : decode cX5_whence 56 = .ok (.istore 4, 2) := by decide +kernel
theorem dX5_whence_58 : decode cX5_whence 58 = .ok (.iconst 0, 1) := by decide +kernel
theorem dX5_whence_59 : decode cX5_whence 59 = .ok (.istore 5, 2) := by decide +kernel
theorem dX5_whence_61 : decode cX5_whence 61 = .ok (.iload 5, 2) := by decide +kernel
theorem dX5_whence_63 : decode cX5_whence 63 = .ok (.bipush 8, 2) := by decide +kernel
theorem dX5_whence_65 : decode cX5_whence 65 = .ok (.if_icmp .ge 30, 3) := by decide +kernel
theorem dX5_whence_68 : decode cX5_whence 68 = .ok (.aload_n 0, 1) := by decide +kernel
theorem dX5_whence_69 : decode cX5_whence 69 = .ok (.iload_n 1, 1) := by decide +kernel
theorem dX5_whence_70 : decode cX5_whence 70 = .ok (.iload 5, 2) := by decide +kernel
theorem dX5_whence_72 : decode cX5_whence 72 = .ok (.iload_n 3, 1) := by decide +kernel
theorem dX5_whence_73 : decode cX5_whence 73 = .ok (.invokevirtual 171, 3) := by decide +kernel
theorem dX5_whence_76 : decode cX5_whence 76 = .ok (.iload_n 2, 1) := by decide +kernel
theorem dX5_whence_77 : decode cX5_whence 77 = .ok (.if_icmp .ne 12, 3) := by decide +kernel
theorem dX5_whence_80 : decode cX5_whence 80 = .ok (.iload 4, 2) := by decide +kernel
theorem dX5_whence_82 : decode cX5_whence 82 = .ok (.iconst 1, 1) := by decide +kernel
theorem dX5_whence_83 : decode cX5_whence 83 = .ok (.iload 5, 2) := by decide +kernel
theorem dX5_whence_85 : decode cX5_whence 85 = .ok (.ishl, 1) := by decide +kernel
theorem dX5_whence_86 : decode cX5_whence 86 = .ok (.ior, 1) := by decide +kernel
theorem dX5_whence_87 : decode cX5_whence 87 = .ok (.istore 4, 2) := by decide +kernel
theorem dX5_whence_89 : decode cX5_whence 89 = .ok (.iinc 5 1, 3) := by decide +kernel
theorem dX5_whence_92 : decode cX5_whence 92 = .ok (.goto (-31), 3) := by decide +kernel
theorem dX5_whence_95 : decode cX5_whence 95 = .ok (.iload 4, 2) := by decide +kernel
theorem dX5_whence_97 : decode cX5_whence 97 = .ok (.ireturn, 1) := by decide +kernel
set_option maxRecDepth 20000 in
theorem ggX5_uncovered_X5_isCell : GoodIn wsX5_uncovered wsX5_isCell := goodIn_r _ [7] (by decide +kernel) (by decide +kernel)
set_option maxRecDepth 20000 in
theorem gX5_uncovered_X5_isCell : GoodIn wsX5_uncovered (va_wsS RX5 89 yX5_isCell wsX5_isCell) := goodIn_app (goodIn_of _ (by decide +kernel)) ggX5_uncovered_X5_isCell
set_option maxRecDepth 20000 in
theorem ggX5_uncovered_X5_hasShore : GoodIn wsX5_uncovered wsX5_hasShore := goodIn_r _ [11, 12, 45, 46, 47, 48, 49, 50, 51, 52, 53, 54] (by decide +kernel) (by decide +kernel)
set_option maxRecDepth 20000 in
theorem gX5_uncovered_X5_hasShore : GoodIn wsX5_uncovered (wsV RX5 93 RX5 yX5_hasShore wsX5_hasShore) := goodIn_app (goodIn_of _ (by decide +kernel)) ggX5_uncovered_X5_hasShore
set_option maxRecDepth 20000 in
theorem ggX5_uncovered_X5_isDryNow : GoodIn wsX5_uncovered wsX5_isDryNow := goodIn_r _ [16, 1, 2, 3, 17, 18, 19, 20, 21, 22, 5, 6, 7, 23, 24, 25, 26, 27, 28, 29, 30, 31, 32, 33, 34, 35, 36, 37, 38, 39, 40, 41, 42, 43, 44, 45, 46, 47, 48, 49, 50, 51, 52, 53, 54, 55, 56, 57, 58, 59, 60, 61, 62, 63, 64, 65, 66, 67] (by decide +kernel) (by decide +kernel)
set_option maxRecDepth 20000 in
theorem gX5_uncovered_X5_isDryNow : GoodIn wsX5_uncovered (wsV RX5 103 RX5 yX5_isDryNow wsX5_isDryNow) := goodIn_app (goodIn_of _ (by decide +kernel)) ggX5_uncovered_X5_isDryNow
set_option maxRecDepth 20000 in
theorem ggX5_uncovered_X4_isDry : GoodIn wsX5_uncovered wsX4_isDry := goodIn_r _ [22, 5, 6, 7, 23, 24, 25, 21, 26, 27, 28, 29, 30, 31, 32, 33, 34, 35, 36, 37, 38, 39, 40, 41, 42, 43, 44, 64, 65, 66, 67] (by decide +kernel) (by decide +kernel)
set_option maxRecDepth 20000 in
theorem gX5_uncovered_X4_isDry : GoodIn wsX5_uncovered (wsV RX5 174 RX4 yX4_isDry wsX4_isDry) := goodIn_app (goodIn_of _ (by decide +kernel)) ggX5_uncovered_X4_isDry
theorem dX5_uncovered_0 : decode cX5_uncovered 0 = .ok (.iload_n 1, 1) := by decide +kernel
theorem dX5_uncovered_1 : decode cX5_uncovered 1 = .ok (.iconst (-1), 1) := by decide +kernel
theorem dX5_uncovered_2 : decode cX5_uncovered 2 = .ok (.if_icmp .eq 13, 3) := by decide +kernel
theorem dX5_uncovered_5 : decode cX5_uncovered 5 = .ok (.iload_n 1, 1) := by decide +kernel
theorem dX5_uncovered_6 : decode cX5_uncovered 6 = .ok (.invokestatic 89, 3) := by decide +kernel
theorem dX5_uncovered_9 : decode cX5_uncovered 9 = .ok (.ifCond .ne 6, 3) := by decide +kernel
theorem dX5_uncovered_12 : decode cX5_uncovered 12 = .ok (.bipush (-101), 2) := by decide +kernel
theorem dX5_uncovered_14 : decode cX5_uncovered 14 = .ok (.ireturn, 1) := by decide +kernel
theorem dX5_uncovered_15 : decode cX5_uncovered 15 = .ok (.aload_n 0, 1) := by decide +kernel
theorem dX5_uncovered_16 : decode cX5_uncovered 16 = .ok (.invokevirtual 93, 3) := by decide +kernel
theorem dX5_uncovered_19 : decode cX5_uncovered 19 = .ok (.ifCond .ne 6, 3) := by decide +kernel
theorem dX5_uncovered_22 : decode cX5_uncovered 22 = .ok (.bipush (-103), 2) := by decide +kernel
theorem dX5_uncovered_24 : decode cX5_uncovered 24 = .ok (.ireturn, 1) := by decide +kernel
theorem dX5_uncovered_25 : decode cX5_uncovered 25 = .ok (.iconst 0, 1) := by decide +kernel
theorem dX5_uncovered_26 : decode cX5_uncovered 26 = .ok (.istore_n 2, 1) := by decide +kernel
theorem dX5_uncovered_27 : decode cX5_uncovered 27 = .ok (.iconst 0, 1) := by decide +kernel
theorem dX5_uncovered_28 : decode cX5_uncovered 28 = .ok (.istore_n 3, 1) := by decide +kernel
theorem dX5_uncovered_29 : decode cX5_uncovered 29 = .ok (.iload_n 3, 1) := by decide +kernel
theorem dX5_uncovered_30 : decode cX5_uncovered 30 = .ok (.bipush 8, 2) := by decide +kernel
theorem dX5_uncovered_32 : decode cX5_uncovered 32 = .ok (.if_icmp .ge 42, 3) := by decide +kernel
theorem dX5_uncovered_35 : decode cX5_uncovered 35 = .ok (.aload_n 0, 1) := by decide +kernel
theorem dX5_uncovered_36 : decode cX5_uncovered 36 = .ok (.iload_n 3, 1) := by decide +kernel
theorem dX5_uncovered_37 : decode cX5_uncovered 37 = .ok (.invokevirtual 103, 3) := by decide +kernel
theorem dX5_uncovered_40 : decode cX5_uncovered 40 = .ok (.ifCond .ne 28, 3) := by decide +kernel
theorem dX5_uncovered_43 : decode cX5_uncovered 43 = .ok (.aload_n 0, 1) := by decide +kernel
theorem dX5_uncovered_44 : decode cX5_uncovered 44 = .ok (.getfield 19, 3) := by decide +kernel
theorem dX5_uncovered_47 : decode cX5_uncovered 47 = .ok (.iload_n 3, 1) := by decide +kernel
theorem dX5_uncovered_48 : decode cX5_uncovered 48 = .ok (.aload_n 0, 1) := by decide +kernel
theorem dX5_uncovered_49 : decode cX5_uncovered 49 = .ok (.getfield 26, 3) := by decide +kernel
theorem dX5_uncovered_52 : decode cX5_uncovered 52 = .ok (.getfield 110, 3) := by decide +kernel
theorem dX5_uncovered_55 : decode cX5_uncovered 55 = .ok (.iload_n 1, 1) := by decide +kernel
theorem dX5_uncovered_56 : decode cX5_uncovered 56 = .ok (.invokevirtual 174, 3) := by decide +kernel
theorem dX5_uncovered_59 : decode cX5_uncovered 59 = .ok (.ifCond .eq 9, 3) := by decide +kernel
theorem dX5_uncovered_62 : decode cX5_uncovered 62 = .ok (.iload_n 2, 1) := by decide +kernel
theorem dX5_uncovered_63 : decode cX5_uncovered 63 = .ok (.iconst 1, 1) := by decide +kernel
theorem dX5_uncovered_64 : decode cX5_uncovered 64 = .ok (.iload_n 3, 1) := by decide +kernel
theorem dX5_uncovered_65 : decode cX5_uncovered 65 = .ok (.ishl, 1) := by decide +kernel
theorem dX5_uncovered_66 : decode cX5_uncovered 66 = .ok (.ior, 1) := by decide +kernel
theorem dX5_uncovered_67 : decode cX5_uncovered 67 = .ok (.istore_n 2, 1) := by decide +kernel
theorem dX5_uncovered_68 : decode cX5_uncovered 68 = .ok (.iinc 3 1, 3) := by decide +kernel
theorem dX5_uncovered_71 : decode cX5_uncovered 71 = .ok (.goto (-42), 3) := by decide +kernel
theorem dX5_uncovered_74 : decode cX5_uncovered 74 = .ok (.iload_n 2, 1) := by decide +kernel
theorem dX5_uncovered_75 : decode cX5_uncovered 75 = .ok (.ireturn, 1) := by decide +kernel
set_option maxRecDepth 20000 in
theorem ggX5_bell_X5_hasShore : GoodIn wsX5_bell wsX5_hasShore := goodIn_r _ [9, 10, 22, 23, 24, 25, 26, 27, 28, 29, 30, 31] (by decide +kernel) (by decide +kernel)
set_option maxRecDepth 20000 in
theorem gX5_bell_X5_hasShore : GoodIn wsX5_bell (wsV RX5 93 RX5 yX5_hasShore wsX5_hasShore) := goodIn_app (goodIn_of _ (by decide +kernel)) ggX5_bell_X5_hasShore
set_option maxRecDepth 20000 in
theorem ggX5_bell_X4_heightIn : GoodIn wsX5_bell wsX4_heightIn := goodIn_r _ [15, 16, 17, 18, 19, 20, 21, 32, 33, 34, 35] (by decide +kernel) (by decide +kernel)
set_option maxRecDepth 20000 in
theorem gX5_bell_X4_heightIn : GoodIn wsX5_bell (wsV RX5 113 RX4 yX4_heightIn wsX4_heightIn) := goodIn_app (goodIn_of _ (by decide +kernel)) ggX5_bell_X4_heightIn
theorem dX5_bell_0 : decode cX5_bell 0 = .ok (.iload_n 1, 1) := by decide +kernel
theorem dX5_bell_1 : decode cX5_bell 1 = .ok (.ifCond .lt 9, 3) := by decide +kernel
theorem dX5_bell_4 : decode cX5_bell 4 = .ok (.iload_n 1, 1) := by decide +kernel
theorem dX5_bell_5 : decode cX5_bell 5 = .ok (.bipush 9, 2) := by decide +kernel
theorem dX5_bell_7 : decode cX5_bell 7 = .ok (.if_icmp .le 6, 3) := by decide +kernel
theorem dX5_bell_10 : decode cX5_bell 10 = .ok (.bipush (-102), 2) := by decide +kernel
theorem dX5_bell_12 : decode cX5_bell 12 = .ok (.ireturn, 1) := by decide +kernel
theorem dX5_bell_13 : decode cX5_bell 13 = .ok (.aload_n 0, 1) := by decide +kernel
theorem dX5_bell_14 : decode cX5_bell 14 = .ok (.invokevirtual 93, 3) := by decide +kernel
theorem dX5_bell_17 : decode cX5_bell 17 = .ok (.ifCond .ne 6, 3) := by decide +kernel
theorem dX5_bell_20 : decode cX5_bell 20 = .ok (.bipush (-103), 2) := by decide +kernel
theorem dX5_bell_22 : decode cX5_bell 22 = .ok (.ireturn, 1) := by decide +kernel
theorem dX5_bell_23 : decode cX5_bell 23 = .ok (.iconst 0, 1) := by decide +kernel
theorem dX5_bell_24 : decode cX5_bell 24 = .ok (.istore_n 2, 1) := by decide +kernel
theorem dX5_bell_25 : decode cX5_bell 25 = .ok (.iload_n 2, 1) := by decide +kernel
theorem dX5_bell_26 : decode cX5_bell 26 = .ok (.aload_n 0, 1) := by decide +kernel
theorem dX5_bell_27 : decode cX5_bell 27 = .ok (.getfield 19, 3) := by decide +kernel
theorem dX5_bell_30 : decode cX5_bell 30 = .ok (.getfield 86, 3) := by decide +kernel
theorem dX5_bell_33 : decode cX5_bell 33 = .ok (.if_icmp .ge 31, 3) := by decide +kernel
theorem dX5_bell_36 : decode cX5_bell 36 = .ok (.aload_n 0, 1) := by decide +kernel
theorem dX5_bell_37 : decode cX5_bell 37 = .ok (.getfield 19, 3) := by decide +kernel
theorem dX5_bell_40 : decode cX5_bell 40 = .ok (.aload_n 0, 1) := by decide +kernel
theorem dX5_bell_41 : decode cX5_bell 41 = .ok (.getfield 26, 3) := by decide +kernel
theorem dX5_bell_44 : decode cX5_bell 44 = .ok (.getfield 110, 3) := by decide +kernel
theorem dX5_bell_47 : decode cX5_bell 47 = .ok (.iload_n 2, 1) := by decide +kernel
theorem dX5_bell_48 : decode cX5_bell 48 = .ok (.iadd, 1) := by decide +kernel
theorem dX5_bell_49 : decode cX5_bell 49 = .ok (.invokevirtual 113, 3) := by decide +kernel
theorem dX5_bell_52 : decode cX5_bell 52 = .ok (.iload_n 1, 1) := by decide +kernel
theorem dX5_bell_53 : decode cX5_bell 53 = .ok (.if_icmp .lt 5, 3) := by decide +kernel
theorem dX5_bell_56 : decode cX5_bell 56 = .ok (.iload_n 2, 1) := by decide +kernel
theorem dX5_bell_57 : decode cX5_bell 57 = .ok (.ireturn, 1) := by decide +kernel
theorem dX5_bell_58 : decode cX5_bell 58 = .ok (.iinc 2 1, 3) := by decide +kernel
theorem dX5_bell_61 : decode cX5_bell 61 = .ok (.goto (-36), 3) := by decide +kernel
theorem dX5_bell_64 : decode cX5_bell 64 = .ok (.iconst (-1), 1) := by decide +kernel
theorem dX5_bell_65 : decode cX5_bell 65 = .ok (.ireturn, 1) := by decide +kernel
set_option maxRecDepth 20000 in
theorem ggX5_newStair_X5_hasShore : GoodIn wsX5_newStair wsX5_hasShore := goodIn_r _ [7, 8, 34, 35, 36, 37, 38, 39, 40, 41, 42, 43] (by decide +kernel) (by decide +kernel)
set_option maxRecDepth 20000 in
theorem gX5_newStair_X5_hasShore : GoodIn wsX5_newStair (wsV RX5 93 RX5 yX5_hasShore wsX5_hasShore) := goodIn_app (goodIn_of _ (by decide +kernel)) ggX5_newStair_X5_hasShore
set_option maxRecDepth 20000 in
theorem ggX5_newStair_X4_hasStair : GoodIn wsX5_newStair wsX4_hasStair := goodIn_r _ [13, 14, 15, 6, 16, 44, 45, 46, 47] (by decide +kernel) (by decide +kernel)
set_option maxRecDepth 20000 in
theorem gX5_newStair_X4_hasStair : GoodIn wsX5_newStair (wsV RX5 100 RX4 yX4_hasStair wsX4_hasStair) := goodIn_app (goodIn_of _ (by decide +kernel)) ggX5_newStair_X4_hasStair
set_option maxRecDepth 20000 in
theorem ggX5_newStair_X3_worthBelonging : GoodIn wsX5_newStair wsX3_worthBelonging := goodIn_r _ [21, 22, 23, 24, 25, 26, 27, 12, 28, 29, 30, 31, 32, 15, 6, 16, 33, 10, 11, 13, 14, 48, 49, 50, 51, 52, 53, 54, 55, 56, 44, 45, 46, 47] (by decide +kernel) (by decide +kernel)
set_option maxRecDepth 20000 in
theorem gX5_newStair_X3_worthBelonging : GoodIn wsX5_newStair (wsV RX5 153 RX3 yX3_worthBelonging wsX3_worthBelonging) := goodIn_app (goodIn_of _ (by decide +kernel)) ggX5_newStair_X3_worthBelonging
theorem dX5_newStair_0 : decode cX5_newStair 0 = .ok (.aload_n 0, 1) := by decide +kernel
theorem dX5_newStair_1 : decode cX5_newStair 1 = .ok (.invokevirtual 93, 3) := by decide +kernel
theorem dX5_newStair_4 : decode cX5_newStair 4 = .ok (.ifCond .ne 6, 3) := by decide +kernel
theorem dX5_newStair_7 : decode cX5_newStair 7 = .ok (.bipush (-103), 2) := by decide +kernel
theorem dX5_newStair_9 : decode cX5_newStair 9 = .ok (.ireturn, 1) := by decide +kernel
theorem dX5_newStair_10 : decode cX5_newStair 10 = .ok (.iconst (-1), 1) := by decide +kernel
theorem dX5_newStair_11 : decode cX5_newStair 11 = .ok (.istore_n 1, 1) := by decide +kernel
theorem dX5_newStair_12 : decode cX5_newStair 12 = .ok (.iconst (-1), 1) := by decide +kernel
theorem dX5_newStair_13 : decode cX5_newStair 13 = .ok (.istore_n 2, 1) := by decide +kernel
theorem dX5_newStair_14 : decode cX5_newStair 14 = .ok (.iconst 0, 1) := by decide +kernel
theorem dX5_newStair_15 : decode cX5_newStair 15 = .ok (.istore_n 3, 1) := by decide +kernel
theorem dX5_newStair_16 : decode cX5_newStair 16 = .ok (.iload_n 3, 1) := by decide +kernel
theorem dX5_newStair_17 : decode cX5_newStair 17 = .ok (.bipush 8, 2) := by decide +kernel
theorem dX5_newStair_19 : decode cX5_newStair 19 = .ok (.if_icmp .ge 50, 3) := by decide +kernel
theorem dX5_newStair_22 : decode cX5_newStair 22 = .ok (.aload_n 0, 1) := by decide +kernel
theorem dX5_newStair_23 : decode cX5_newStair 23 = .ok (.getfield 19, 3) := by decide +kernel
theorem dX5_newStair_26 : decode cX5_newStair 26 = .ok (.iload_n 3, 1) := by decide +kernel
theorem dX5_newStair_27 : decode cX5_newStair 27 = .ok (.invokevirtual 100, 3) := by decide +kernel
theorem dX5_newStair_30 : decode cX5_newStair 30 = .ok (.ifCond .eq 7, 3) := by decide +kernel
theorem dX5_newStair_33 : decode cX5_newStair 33 = .ok (.iconst (-1), 1) := by decide +kernel
theorem dX5_newStair_34 : decode cX5_newStair 34 = .ok (.goto 16, 3) := by decide +kernel
theorem dX5_newStair_37 : decode cX5_newStair 37 = .ok (.aload_n 0, 1) := by decide +kernel
theorem dX5_newStair_38 : decode cX5_newStair 38 = .ok (.getfield 26, 3) := by decide +kernel
theorem dX5_newStair_41 : decode cX5_newStair 41 = .ok (.aload_n 0, 1) := by decide +kernel
theorem dX5_newStair_42 : decode cX5_newStair 42 = .ok (.getfield 19, 3) := by decide +kernel
theorem dX5_newStair_45 : decode cX5_newStair 45 = .ok (.iload_n 3, 1) := by decide +kernel
theorem dX5_newStair_46 : decode cX5_newStair 46 = .ok (.iload_n 3, 1) := by decide +kernel
theorem dX5_newStair_47 : decode cX5_newStair 47 = .ok (.invokevirtual 153, 3) := by decide +kernel
theorem dX5_newStair_50 : decode cX5_newStair 50 = .ok (.istore 4, 2) := by decide +kernel
theorem dX5_newStair_52 : decode cX5_newStair 52 = .ok (.iload 4, 2) := by decide +kernel
theorem dX5_newStair_54 : decode cX5_newStair 54 = .ok (.iload_n 2, 1) := by decide +kernel
theorem dX5_newStair_55 : decode cX5_newStair 55 = .ok (.if_icmp .le 8, 3) := by decide +kernel
theorem dX5_newStair_58 : decode cX5_newStair 58 = .ok (.iload 4, 2) := by decide +kernel
theorem dX5_newStair_60 : decode cX5_newStair 60 = .ok (.istore_n 2, 1) := by decide +kernel
theorem dX5_newStair_61 : decode cX5_newStair 61 = .ok (.iload_n 3, 1) := by decide +kernel
theorem dX5_newStair_62 : decode cX5_newStair 62 = .ok (.istore_n 1, 1) := by decide +kernel
theorem dX5_newStair_63 : decode cX5_newStair 63 = .ok (.iinc 3 1, 3) := by decide +kernel
theorem dX5_newStair_66 : decode cX5_newStair 66 = .ok (.goto (-50), 3) := by decide +kernel
theorem dX5_newStair_69 : decode cX5_newStair 69 = .ok (.iload_n 1, 1) := by decide +kernel
theorem dX5_newStair_70 : decode cX5_newStair 70 = .ok (.ireturn, 1) := by decide +kernel
set_option maxRecDepth 20000 in
theorem ggX5_mark_X5_isCell : GoodIn wsX5_mark wsX5_isCell := goodIn_r _ [6] (by decide +kernel) (by decide +kernel)
set_option maxRecDepth 20000 in
theorem gX5_mark_X5_isCell : GoodIn wsX5_mark (va_wsS RX5 89 yX5_isCell wsX5_isCell) := goodIn_app (goodIn_of _ (by decide +kernel)) ggX5_mark_X5_isCell
set_option maxRecDepth 20000 in
theorem ggX5_mark_X5_hasShore : GoodIn wsX5_mark wsX5_hasShore := goodIn_r _ [10, 11, 20, 21, 22, 23, 24, 25, 26, 27, 28, 29] (by decide +kernel) (by decide +kernel)
set_option maxRecDepth 20000 in
theorem gX5_mark_X5_hasShore : GoodIn wsX5_mark (wsV RX5 93 RX5 yX5_hasShore wsX5_hasShore) := goodIn_app (goodIn_of _ (by decide +kernel)) ggX5_mark_X5_hasShore
set_option maxRecDepth 20000 in
theorem ggX5_mark_X3_beginMarks : GoodIn wsX5_mark wsX3_beginMarks := goodIn_r _ [16, 17, 18, 19, 30, 31, 32, 33, 34, 35, 36, 37, 38] (by decide +kernel) (by decide +kernel)
set_option maxRecDepth 20000 in
theorem gX5_mark_X3_beginMarks : GoodIn wsX5_mark (wsV RX5 181 RX3 yX3_beginMarks wsX3_beginMarks) := goodIn_app (goodIn_of _ (by decide +kernel)) ggX5_mark_X3_beginMarks
theorem dX5_mark_0 : decode cX5_mark 0 = .ok (.iload_n 1, 1) := by decide +kernel
theorem dX5_mark_1 : decode cX5_mark 1 = .ok (.ifCond .lt 9, 3) := by decide +kernel
theorem dX5_mark_4 : decode cX5_mark 4 = .ok (.iload_n 1, 1) := by decide +kernel
theorem dX5_mark_5 : decode cX5_mark 5 = .ok (.bipush 99, 2) := by decide +kernel
theorem dX5_mark_7 : decode cX5_mark 7 = .ok (.if_icmp .le 6, 3) := by decide +kernel
theorem dX5_mark_10 : decode cX5_mark 10 = .ok (.bipush (-102), 2) := by decide +kernel
theorem dX5_mark_12 : decode cX5_mark 12 = .ok (.ireturn, 1) := by decide +kernel
theorem dX5_mark_13 : decode cX5_mark 13 = .ok (.iload_n 2, 1) := by decide +kernel
theorem dX5_mark_14 : decode cX5_mark 14 = .ok (.invokestatic 89, 3) := by decide +kernel
theorem dX5_mark_17 : decode cX5_mark 17 = .ok (.ifCond .ne 6, 3) := by decide +kernel
theorem dX5_mark_20 : decode cX5_mark 20 = .ok (.bipush (-101), 2) := by decide +kernel
theorem dX5_mark_22 : decode cX5_mark 22 = .ok (.ireturn, 1) := by decide +kernel
theorem dX5_mark_23 : decode cX5_mark 23 = .ok (.aload_n 0, 1) := by decide +kernel
theorem dX5_mark_24 : decode cX5_mark 24 = .ok (.invokevirtual 93, 3) := by decide +kernel
theorem dX5_mark_27 : decode cX5_mark 27 = .ok (.ifCond .ne 6, 3) := by decide +kernel
theorem dX5_mark_30 : decode cX5_mark 30 = .ok (.bipush (-103), 2) := by decide +kernel
theorem dX5_mark_32 : decode cX5_mark 32 = .ok (.ireturn, 1) := by decide +kernel
theorem dX5_mark_33 : decode cX5_mark 33 = .ok (.aload_n 0, 1) := by decide +kernel
theorem dX5_mark_34 : decode cX5_mark 34 = .ok (.getfield 26, 3) := by decide +kernel
theorem dX5_mark_37 : decode cX5_mark 37 = .ok (.getfield 178, 3) := by decide +kernel
theorem dX5_mark_40 : decode cX5_mark 40 = .ok (.istore_n 3, 1) := by decide +kernel
theorem dX5_mark_41 : decode cX5_mark 41 = .ok (.aload_n 0, 1) := by decide +kernel
theorem dX5_mark_42 : decode cX5_mark 42 = .ok (.getfield 26, 3) := by decide +kernel
theorem dX5_mark_45 : decode cX5_mark 45 = .ok (.iload_n 1, 1) := by decide +kernel
theorem dX5_mark_46 : decode cX5_mark 46 = .ok (.iload_n 2, 1) := by decide +kernel
theorem dX5_mark_47 : decode cX5_mark 47 = .ok (.invokevirtual 181, 3) := by decide +kernel
theorem dX5_mark_50 : decode cX5_mark 50 = .ok (.iload_n 3, 1) := by decide +kernel
theorem dX5_mark_51 : decode cX5_mark 51 = .ok (.ireturn, 1) := by decide +kernel
set_option maxRecDepth 20000 in
theorem ggX5_then_X5_isCell : GoodIn wsX5_then wsX5_isCell := goodIn_r _ [6] (by decide +kernel) (by decide +kernel)
set_option maxRecDepth 20000 in
theorem gX5_then_X5_isCell : GoodIn wsX5_then (va_wsS RX5 89 yX5_isCell wsX5_isCell) := goodIn_app (goodIn_of _ (by decide +kernel)) ggX5_then_X5_isCell
set_option maxRecDepth 20000 in
theorem ggX5_then_X3_addMark : GoodIn wsX5_then wsX3_addMark := goodIn_r _ [11, 12, 13, 24, 25, 26, 27, 28, 29, 30, 31, 32] (by decide +kernel) (by decide +kernel)
set_option maxRecDepth 20000 in
theorem gX5_then_X3_addMark : GoodIn wsX5_then (wsV RX5 185 RX3 yX3_addMark wsX3_addMark) := goodIn_app (goodIn_of _ (by decide +kernel)) ggX5_then_X3_addMark
theorem dX5_then_0 : decode cX5_then 0 = .ok (.aload_n 0, 1) := by decide +kernel
theorem dX5_then_1 : decode cX5_then 1 = .ok (.getfield 26, 3) := by decide +kernel
theorem dX5_then_4 : decode cX5_then 4 = .ok (.getfield 178, 3) := by decide +kernel
theorem dX5_then_7 : decode cX5_then 7 = .ok (.ifCond .ne 6, 3) := by decide +kernel
theorem dX5_then_10 : decode cX5_then 10 = .ok (.bipush (-103), 2) := by decide +kernel
theorem dX5_then_12 : decode cX5_then 12 = .ok (.ireturn, 1) := by decide +kernel
theorem dX5_then_13 : decode cX5_then 13 = .ok (.iload_n 1, 1) := by decide +kernel
theorem dX5_then_14 : decode cX5_then 14 = .ok (.bipush (-2), 2) := by decide +kernel
theorem dX5_then_16 : decode cX5_then 16 = .ok (.if_icmp .eq 13, 3) := by decide +kernel
theorem dX5_then_19 : decode cX5_then 19 = .ok (.iload_n 1, 1) := by decide +kernel
theorem dX5_then_20 : decode cX5_then 20 = .ok (.invokestatic 89, 3) := by decide +kernel
theorem dX5_then_23 : decode cX5_then 23 = .ok (.ifCond .ne 6, 3) := by decide +kernel
theorem dX5_then_26 : decode cX5_then 26 = .ok (.bipush (-101), 2) := by decide +kernel
theorem dX5_then_28 : decode cX5_then 28 = .ok (.ireturn, 1) := by decide +kernel
theorem dX5_then_29 : decode cX5_then 29 = .ok (.aload_n 0, 1) := by decide +kernel
theorem dX5_then_30 : decode cX5_then 30 = .ok (.getfield 26, 3) := by decide +kernel
theorem dX5_then_33 : decode cX5_then 33 = .ok (.iload_n 1, 1) := by decide +kernel
theorem dX5_then_34 : decode cX5_then 34 = .ok (.invokevirtual 185, 3) := by decide +kernel
theorem dX5_then_37 : decode cX5_then 37 = .ok (.ireturn, 1) := by decide +kernel
set_option maxRecDepth 20000 in
theorem ggX5_fits_X3_couldBe : GoodIn wsX5_fits wsX3_couldBe := goodIn_r _ [8, 9, 10, 11, 12, 13, 14, 15, 16, 17, 18, 19, 20, 21, 22, 23, 24, 25, 26, 27, 28, 29, 30, 31, 32, 33, 34, 35, 36, 37, 38, 39, 40, 41, 42, 43, 44, 45, 46, 47, 48, 49, 50, 51, 52, 63, 64, 65, 66, 67, 68, 69, 70, 71, 72, 73, 74, 75] (by decide +kernel) (by decide +kernel)
set_option maxRecDepth 20000 in
theorem gX5_fits_X3_couldBe : GoodIn wsX5_fits (wsV RX5 188 RX3 yX3_couldBe wsX3_couldBe) := goodIn_app (goodIn_of _ (by decide +kernel)) ggX5_fits_X3_couldBe
theorem dX5_fits_0 : decode cX5_fits 0 = .ok (.aload_n 0, 1) := by decide +kernel
theorem dX5_fits_1 : decode cX5_fits 1 = .ok (.getfield 26, 3) := by decide +kernel
theorem dX5_fits_4 : decode cX5_fits 4 = .ok (.getfield 178, 3) := by decide +kernel
theorem dX5_fits_7 : decode cX5_fits 7 = .ok (.ifCond .ne 6, 3) := by decide +kernel
theorem dX5_fits_10 : decode cX5_fits 10 = .ok (.bipush (-103), 2) := by decide +kernel
theorem dX5_fits_12 : decode cX5_fits 12 = .ok (.ireturn, 1) := by decide +kernel
theorem dX5_fits_13 : decode cX5_fits 13 = .ok (.iconst 0, 1) := by decide +kernel
theorem dX5_fits_14 : decode cX5_fits 14 = .ok (.istore_n 1, 1) := by decide +kernel
theorem dX5_fits_15 : decode cX5_fits 15 = .ok (.iconst 0, 1) := by decide +kernel
theorem dX5_fits_16 : decode cX5_fits 16 = .ok (.istore_n 2, 1) := by decide +kernel
theorem dX5_fits_17 : decode cX5_fits 17 = .ok (.iload_n 2, 1) := by decide +kernel
theorem dX5_fits_18 : decode cX5_fits 18 = .ok (.iconst 5, 1) := by decide +kernel
theorem dX5_fits_19 : decode cX5_fits 19 = .ok (.if_icmp .ge 30, 3) := by decide +kernel
theorem dX5_fits_22 : decode cX5_fits 22 = .ok (.aload_n 0, 1) := by decide +kernel
theorem dX5_fits_23 : decode cX5_fits 23 = .ok (.getfield 26, 3) := by decide +kernel
theorem dX5_fits_26 : decode cX5_fits 26 = .ok (.iload_n 2, 1) := by decide +kernel
theorem dX5_fits_27 : decode cX5_fits 27 = .ok (.aload_n 0, 1) := by decide +kernel
theorem dX5_fits_28 : decode cX5_fits 28 = .ok (.getfield 19, 3) := by decide +kernel
theorem dX5_fits_31 : decode cX5_fits 31 = .ok (.invokevirtual 188, 3) := by decide +kernel
theorem dX5_fits_34 : decode cX5_fits 34 = .ok (.ifCond .eq 9, 3) := by decide +kernel
theorem dX5_fits_37 : decode cX5_fits 37 = .ok (.iload_n 1, 1) := by decide +kernel
theorem dX5_fits_38 : decode cX5_fits 38 = .ok (.iconst 1, 1) := by decide +kernel
theorem dX5_fits_39 : decode cX5_fits 39 = .ok (.iload_n 2, 1) := by decide +kernel
theorem dX5_fits_40 : decode cX5_fits 40 = .ok (.ishl, 1) := by decide +kernel
theorem dX5_fits_41 : decode cX5_fits 41 = .ok (.ior, 1) := by decide +kernel
theorem dX5_fits_42 : decode cX5_fits 42 = .ok (.istore_n 1, 1) := by decide +kernel
theorem dX5_fits_43 : decode cX5_fits 43 = .ok (.iinc 2 1, 3) := by decide +kernel
theorem dX5_fits_46 : decode cX5_fits 46 = .ok (.goto (-29), 3) := by decide +kernel
theorem dX5_fits_49 : decode cX5_fits 49 = .ok (.iload_n 1, 1) := by decide +kernel
theorem dX5_fits_50 : decode cX5_fits 50 = .ok (.ireturn, 1) := by decide +kernel
set_option maxRecDepth 20000 in
theorem ggX5_days_X5_hasShore : GoodIn wsX5_days wsX5_hasShore := goodIn_r _ [10, 11, 104, 105, 106, 107, 108, 109, 110, 111, 112, 113] (by decide +kernel) (by decide +kernel)
set_option maxRecDepth 20000 in
theorem gX5_days_X5_hasShore : GoodIn wsX5_days (wsV RX5 93 RX5 yX5_hasShore wsX5_hasShore) := goodIn_app (goodIn_of _ (by decide +kernel)) ggX5_days_X5_hasShore
set_option maxRecDepth 20000 in
theorem ggX5_days_X3_copyFrom : GoodIn wsX5_days wsX3_copyFrom := goodIn_r _ [16, 17, 18, 19, 20, 21, 22, 23, 24, 25, 26, 27, 28, 29, 115, 116, 117, 118, 119, 120, 121, 122, 123] (by decide +kernel) (by decide +kernel)
set_option maxRecDepth 20000 in
theorem gX5_days_X3_copyFrom : GoodIn wsX5_days (wsV RX5 157 RX3 yX3_copyFrom wsX3_copyFrom) := goodIn_app (goodIn_of _ (by decide +kernel)) ggX5_days_X3_copyFrom
set_option maxRecDepth 20000 in
theorem ggX5_days_X3_takeByDraw : GoodIn wsX5_days wsX3_takeByDraw := goodIn_r _ [33, 25, 22, 27, 26, 34, 35, 36, 37, 38, 39, 40, 41, 42, 43, 44, 45, 46, 15, 47, 48, 49, 50, 51, 52, 53, 9, 54, 55, 56, 57, 58, 59, 60, 61, 62, 63, 64, 65, 66, 67, 68, 69, 70, 71, 72, 73, 74, 75, 76, 115, 116, 117, 118, 119, 120, 121, 122, 123, 114, 124, 125, 126, 127] (by decide +kernel) (by decide +kernel)
set_option maxRecDepth 20000 in
theorem gX5_days_X3_takeByDraw : GoodIn wsX5_days (wsV RX5 196 RX3 yX3_takeByDraw wsX3_takeByDraw) := goodIn_app (goodIn_of _ (by decide +kernel)) ggX5_days_X3_takeByDraw
set_option maxRecDepth 20000 in
theorem ggX5_days_X3_goOn : GoodIn wsX5_days wsX3_goOn := goodIn_r _ [80, 25, 17, 22, 27, 26, 81, 82, 83, 51, 84, 85, 9, 86, 53, 54, 87, 49, 50, 52, 55, 56, 57, 58, 59, 60, 61, 62, 63, 64, 65, 66, 67, 68, 69, 70, 71, 72, 73, 74, 75, 76, 88, 89, 90, 91, 115, 116, 117, 118, 119, 120, 121, 122, 123, 124, 125, 126, 127] (by decide +kernel) (by decide +kernel)
set_option maxRecDepth 20000 in
theorem gX5_days_X3_goOn : GoodIn wsX5_days (wsV RX5 119 RX3 yX3_goOn wsX3_goOn) := goodIn_app (goodIn_of _ (by decide +kernel)) ggX5_days_X3_goOn
set_option maxRecDepth 20000 in
theorem ggX5_days_X3_worthTaken : GoodIn wsX5_days wsX3_worthTaken := goodIn_r _ [95, 25, 22, 23, 115, 116, 117, 118, 119, 120, 121, 122, 123] (by decide +kernel) (by decide +kernel)
set_option maxRecDepth 20000 in
theorem gX5_days_X3_worthTaken : GoodIn wsX5_days (wsV RX5 200 RX3 yX3_worthTaken wsX3_worthTaken) := goodIn_app (goodIn_of _ (by decide +kernel)) ggX5_days_X3_worthTaken
set_option maxRecDepth 20000 in
theorem ggX5_days_X3_countIn : GoodIn wsX5_days wsX3_countIn := goodIn_r _ [99, 25, 22, 115, 116, 117, 118, 119, 120, 121, 122, 123] (by decide +kernel) (by decide +kernel)
set_option maxRecDepth 20000 in
theorem gX5_days_X3_countIn : GoodIn wsX5_days (wsV RX5 106 RX3 yX3_countIn wsX3_countIn) := goodIn_app (goodIn_of _ (by decide +kernel)) ggX5_days_X3_countIn
set_option maxRecDepth 20000 in
theorem ggX5_days_X3_cellsTogether : GoodIn wsX5_days wsX3_cellsTogether := goodIn_r _ [103, 25, 22, 53, 9, 54, 115, 116, 117, 118, 119, 120, 121, 122, 123] (by decide +kernel) (by decide +kernel)
set_option maxRecDepth 20000 in
theorem gX5_days_X3_cellsTogether : GoodIn wsX5_days (wsV RX5 203 RX3 yX3_cellsTogether wsX3_cellsTogether) := goodIn_app (goodIn_of _ (by decide +kernel)) ggX5_days_X3_cellsTogether
theorem dX5_days_0 : decode cX5_days 0 = .ok (.iload_n 1, 1) := by decide +kernel
theorem dX5_days_1 : decode cX5_days 1 = .ok (.iconst 1, 1) := by decide +kernel
theorem dX5_days_2 : decode cX5_days 2 = .ok (.if_icmp .lt 22, 3) := by decide +kernel
theorem dX5_days_5 : decode cX5_days 5 = .ok (.iload_n 1, 1) := by decide +kernel
theorem dX5_days_6 : decode cX5_days 6 = .ok (.bipush 60, 2) := by decide +kernel
theorem dX5_days_8 : decode cX5_days 8 = .ok (.if_icmp .gt 16, 3) := by decide +kernel
theorem dX5_days_11 : decode cX5_days 11 = .ok (.iload_n 2, 1) := by decide +kernel
theorem dX5_days_12 : decode cX5_days 12 = .ok (.ifCond .lt 12, 3) := by decide +kernel
theorem dX5_days_15 : decode cX5_days 15 = .ok (.iload_n 3, 1) := by decide +kernel
theorem dX5_days_16 : decode cX5_days 16 = .ok (.ifCond .lt 8, 3) := by decide +kernel
theorem dX5_days_19 : decode cX5_days 19 = .ok (.iload_n 3, 1) := by decide +kernel
theorem dX5_days_20 : decode cX5_days 20 = .ok (.iconst 3, 1) := by decide +kernel
theorem dX5_days_21 : decode cX5_days 21 = .ok (.if_icmp .le 6, 3) := by decide +kernel
theorem dX5_days_24 : decode cX5_days 24 = .ok (.bipush (-102), 2) := by decide +kernel
theorem dX5_days_26 : decode cX5_days 26 = .ok (.ireturn, 1) := by decide +kernel
theorem dX5_days_27 : decode cX5_days 27 = .ok (.aload_n 0, 1) := by decide +kernel
theorem dX5_days_28 : decode cX5_days 28 = .ok (.invokevirtual 93, 3) := by decide +kernel
theorem dX5_days_31 : decode cX5_days 31 = .ok (.ifCond .ne 6, 3) := by decide +kernel
theorem dX5_days_34 : decode cX5_days 34 = .ok (.bipush (-103), 2) := by decide +kernel
theorem dX5_days_36 : decode cX5_days 36 = .ok (.ireturn, 1) := by decide +kernel
theorem dX5_days_37 : decode cX5_days 37 = .ok (.aload_n 0, 1) := by decide +kernel
theorem dX5_days_38 : decode cX5_days 38 = .ok (.getfield 33, 3) := by decide +kernel
theorem dX5_days_41 : decode cX5_days 41 = .ok (.aload_n 0, 1) := by decide +kernel
theorem dX5_days_42 : decode cX5_days 42 = .ok (.getfield 26, 3) := by decide +kernel
theorem dX5_days_45 : decode cX5_days 45 = .ok (.invokevirtual 157, 3) := by decide +kernel
theorem dX5_days_48 : decode cX5_days 48 = .ok (.aload_n 0, 1) := by decide +kernel
theorem dX5_days_49 : decode cX5_days 49 = .ok (.getfield 39, 3) := by decide +kernel
theorem dX5_days_52 : decode cX5_days 52 = .ok (.iload_n 2, 1) := by decide +kernel
theorem dX5_days_53 : decode cX5_days 53 = .ok (.i2l, 1) := by decide +kernel
theorem dX5_days_54 : decode cX5_days 54 = .ok (.putfield 192, 3) := by decide +kernel
theorem dX5_days_57 : decode cX5_days 57 = .ok (.iconst 0, 1) := by decide +kernel
theorem dX5_days_58 : decode cX5_days 58 = .ok (.istore 4, 2) := by decide +kernel
theorem dX5_days_60 : decode cX5_days 60 = .ok (.iload 4, 2) := by decide +kernel
theorem dX5_days_62 : decode cX5_days 62 = .ok (.iload_n 1, 1) := by decide +kernel
theorem dX5_days_63 : decode cX5_days 63 = .ok (.if_icmp .ge 36, 3) := by decide +kernel
theorem dX5_days_66 : decode cX5_days 66 = .ok (.aload_n 0, 1) := by decide +kernel
theorem dX5_days_67 : decode cX5_days 67 = .ok (.getfield 33, 3) := by decide +kernel
theorem dX5_days_70 : decode cX5_days 70 = .ok (.aload_n 0, 1) := by decide +kernel
theorem dX5_days_71 : decode cX5_days 71 = .ok (.getfield 39, 3) := by decide +kernel
theorem dX5_days_74 : decode cX5_days 74 = .ok (.aload_n 0, 1) := by decide +kernel
theorem dX5_days_75 : decode cX5_days 75 = .ok (.getfield 19, 3) := by decide +kernel
theorem dX5_days_78 : decode cX5_days 78 = .ok (.invokevirtual 196, 3) := by decide +kernel
theorem dX5_days_81 : decode cX5_days 81 = .ok (.aload_n 0, 1) := by decide +kernel
theorem dX5_days_82 : decode cX5_days 82 = .ok (.getfield 33, 3) := by decide +kernel
theorem dX5_days_85 : decode cX5_days 85 = .ok (.aload_n 0, 1) := by decide +kernel
theorem dX5_days_86 : decode cX5_days 86 = .ok (.getfield 19, 3) := by decide +kernel
theorem dX5_days_89 : decode cX5_days 89 = .ok (.invokevirtual 119, 3) := by decide +kernel
theorem dX5_days_92 : decode cX5_days 92 = .ok (.pop, 1) := by decide +kernel
theorem dX5_days_93 : decode cX5_days 93 = .ok (.iinc 4 1, 3) := by decide +kernel
theorem dX5_days_96 : decode cX5_days 96 = .ok (.goto (-36), 3) := by decide +kernel
theorem dX5_days_99 : decode cX5_days 99 = .ok (.iload_n 3, 1) := by decide +kernel
theorem dX5_days_100 : decode cX5_days 100 = .ok (.tableswitch 54 0 2 #[28, 36, 46], 28) := by decide +kernel
theorem dX5_days_128 : decode cX5_days 128 = .ok (.aload_n 0, 1) := by decide +kernel
theorem dX5_days_129 : decode cX5_days 129 = .ok (.getfield 33, 3) := by decide +kernel
theorem dX5_days_132 : decode cX5_days 132 = .ok (.invokevirtual 200, 3) := by decide +kernel
theorem dX5_days_135 : decode cX5_days 135 = .ok (.ireturn, 1) := by decide +kernel
theorem dX5_days_136 : decode cX5_days 136 = .ok (.aload_n 0, 1) := by decide +kernel
theorem dX5_days_137 : decode cX5_days 137 = .ok (.getfield 33, 3) := by decide +kernel
theorem dX5_days_140 : decode cX5_days 140 = .ok (.bipush (-2), 2) := by decide +kernel
theorem dX5_days_142 : decode cX5_days 142 = .ok (.invokevirtual 106, 3) := by decide +kernel
theorem dX5_days_145 : decode cX5_days 145 = .ok (.ireturn, 1) := by decide +kernel
theorem dX5_days_146 : decode cX5_days 146 = .ok (.aload_n 0, 1) := by decide +kernel
theorem dX5_days_147 : decode cX5_days 147 = .ok (.getfield 33, 3) := by decide +kernel
theorem dX5_days_150 : decode cX5_days 150 = .ok (.invokevirtual 203, 3) := by decide +kernel
theorem dX5_days_153 : decode cX5_days 153 = .ok (.ireturn, 1) := by decide +kernel
theorem dX5_days_154 : decode cX5_days 154 = .ok (.aload_n 0, 1) := by decide +kernel
theorem dX5_days_155 : decode cX5_days 155 = .ok (.getfield 39, 3) := by decide +kernel
theorem dX5_days_158 : decode cX5_days 158 = .ok (.getfield 192, 3) := by decide +kernel
theorem dX5_days_161 : decode cX5_days 161 = .ok (.l2i, 1) := by decide +kernel
theorem dX5_days_162 : decode cX5_days 162 = .ok (.ireturn, 1) := by decide +kernel
set_option maxRecDepth 20000 in
theorem ggX5_image_X5_hasShore : GoodIn wsX5_image wsX5_hasShore := goodIn_r _ [10, 3, 29, 30, 31, 32, 33, 34, 35, 36, 37, 38] (by decide +kernel) (by decide +kernel)
set_option maxRecDepth 20000 in
theorem gX5_image_X5_hasShore : GoodIn wsX5_image (wsV RX5 93 RX5 yX5_hasShore wsX5_hasShore) := goodIn_app (goodIn_of _ (by decide +kernel)) ggX5_image_X5_hasShore
set_option maxRecDepth 20000 in
theorem ggX5_image_X3_copyFrom : GoodIn wsX5_image wsX3_copyFrom := goodIn_r _ [15, 16, 17, 18, 19, 20, 21, 22, 23, 24, 25, 26, 27, 28, 39, 40, 41, 42, 43, 44, 45, 46, 47] (by decide +kernel) (by decide +kernel)
set_option maxRecDepth 20000 in
theorem gX5_image_X3_copyFrom : GoodIn wsX5_image (wsV RX5 157 RX3 yX3_copyFrom wsX3_copyFrom) := goodIn_app (goodIn_of _ (by decide +kernel)) ggX5_image_X3_copyFrom
theorem dX5_image_0 : decode cX5_image 0 = .ok (.aload_n 0, 1) := by decide +kernel
theorem dX5_image_1 : decode cX5_image 1 = .ok (.invokevirtual 93, 3) := by decide +kernel
theorem dX5_image_4 : decode cX5_image 4 = .ok (.ifCond .ne 6, 3) := by decide +kernel
theorem dX5_image_7 : decode cX5_image 7 = .ok (.bipush (-103), 2) := by decide +kernel
theorem dX5_image_9 : decode cX5_image 9 = .ok (.ireturn, 1) := by decide +kernel
theorem dX5_image_10 : decode cX5_image 10 = .ok (.aload_n 0, 1) := by decide +kernel
theorem dX5_image_11 : decode cX5_image 11 = .ok (.getfield 30, 3) := by decide +kernel
theorem dX5_image_14 : decode cX5_image 14 = .ok (.aload_n 0, 1) := by decide +kernel
theorem dX5_image_15 : decode cX5_image 15 = .ok (.getfield 26, 3) := by decide +kernel
theorem dX5_image_18 : decode cX5_image 18 = .ok (.invokevirtual 157, 3) := by decide +kernel
theorem dX5_image_21 : decode cX5_image 21 = .ok (.aload_n 0, 1) := by decide +kernel
theorem dX5_image_22 : decode cX5_image 22 = .ok (.aload_n 0, 1) := by decide +kernel
theorem dX5_image_23 : decode cX5_image 23 = .ok (.getfield 50, 3) := by decide +kernel
theorem dX5_image_26 : decode cX5_image 26 = .ok (.putfield 57, 3) := by decide +kernel
theorem dX5_image_29 : decode cX5_image 29 = .ok (.aload_n 0, 1) := by decide +kernel
theorem dX5_image_30 : decode cX5_image 30 = .ok (.getfield 30, 3) := by decide +kernel
theorem dX5_image_33 : decode cX5_image 33 = .ok (.getfield 110, 3) := by decide +kernel
theorem dX5_image_36 : decode cX5_image 36 = .ok (.ireturn, 1) := by decide +kernel
set_option maxRecDepth 20000 in
theorem ggX5_restore_X3_copyFrom : GoodIn wsX5_restore wsX3_copyFrom := goodIn_r _ [11, 12, 13, 14, 15, 16, 17, 18, 19, 20, 21, 22, 23, 24, 35, 36, 37, 38, 39, 40, 41, 42, 43] (by decide +kernel) (by decide +kernel)
set_option maxRecDepth 20000 in
theorem gX5_restore_X3_copyFrom : GoodIn wsX5_restore (wsV RX5 157 RX3 yX3_copyFrom wsX3_copyFrom) := goodIn_app (goodIn_of _ (by decide +kernel)) ggX5_restore_X3_copyFrom
theorem dX5_restore_0 : decode cX5_restore 0 = .ok (.aload_n 0, 1) := by decide +kernel
theorem dX5_restore_1 : decode cX5_restore 1 = .ok (.getfield 57, 3) := by decide +kernel
theorem dX5_restore_4 : decode cX5_restore 4 = .ok (.ifCond .eq 31, 3) := by decide +kernel
theorem dX5_restore_7 : decode cX5_restore 7 = .ok (.aload_n 0, 1) := by decide +kernel
theorem dX5_restore_8 : decode cX5_restore 8 = .ok (.getfield 57, 3) := by decide +kernel
theorem dX5_restore_11 : decode cX5_restore 11 = .ok (.aload_n 0, 1) := by decide +kernel
theorem dX5_restore_12 : decode cX5_restore 12 = .ok (.getfield 50, 3) := by decide +kernel
theorem dX5_restore_15 : decode cX5_restore 15 = .ok (.if_icmp .ne 20, 3) := by decide +kernel
theorem dX5_restore_18 : decode cX5_restore 18 = .ok (.aload_n 0, 1) := by decide +kernel
theorem dX5_restore_19 : decode cX5_restore 19 = .ok (.getfield 30, 3) := by decide +kernel
theorem dX5_restore_22 : decode cX5_restore 22 = .ok (.getfield 206, 3) := by decide +kernel
theorem dX5_restore_25 : decode cX5_restore 25 = .ok (.aload_n 0, 1) := by decide +kernel
theorem dX5_restore_26 : decode cX5_restore 26 = .ok (.getfield 26, 3) := by decide +kernel
theorem dX5_restore_29 : decode cX5_restore 29 = .ok (.getfield 206, 3) := by decide +kernel
theorem dX5_restore_32 : decode cX5_restore 32 = .ok (.if_icmp .eq 6, 3) := by decide +kernel
theorem dX5_restore_35 : decode cX5_restore 35 = .ok (.bipush (-103), 2) := by decide +kernel
theorem dX5_restore_37 : decode cX5_restore 37 = .ok (.ireturn, 1) := by decide +kernel
theorem dX5_restore_38 : decode cX5_restore 38 = .ok (.aload_n 0, 1) := by decide +kernel
theorem dX5_restore_39 : decode cX5_restore 39 = .ok (.getfield 26, 3) := by decide +kernel
theorem dX5_restore_42 : decode cX5_restore 42 = .ok (.aload_n 0, 1) := by decide +kernel
theorem dX5_restore_43 : decode cX5_restore 43 = .ok (.getfield 30, 3) := by decide +kernel
theorem dX5_restore_46 : decode cX5_restore 46 = .ok (.invokevirtual 157, 3) := by decide +kernel
theorem dX5_restore_49 : decode cX5_restore 49 = .ok (.aload_n 0, 1) := by decide +kernel
theorem dX5_restore_50 : decode cX5_restore 50 = .ok (.getfield 26, 3) := by decide +kernel
theorem dX5_restore_53 : decode cX5_restore 53 = .ok (.getfield 110, 3) := by decide +kernel
theorem dX5_restore_56 : decode cX5_restore 56 = .ok (.ireturn, 1) := by decide +kernel
set_option maxRecDepth 20000 in
theorem ggX5_count_X4_stairCount : GoodIn wsX5_count wsX4_stairCount := goodIn_r _ [15, 16, 17, 18, 19, 20, 21, 22, 23, 59, 60, 61, 62] (by decide +kernel) (by decide +kernel)
set_option maxRecDepth 20000 in
theorem gX5_count_X4_stairCount : GoodIn wsX5_count (wsV RX5 209 RX4 yX4_stairCount wsX4_stairCount) := goodIn_app (goodIn_of _ (by decide +kernel)) ggX5_count_X4_stairCount
set_option maxRecDepth 20000 in
theorem ggX5_count_X3_countInCells : GoodIn wsX5_count wsX3_countInCells := goodIn_r _ [28, 29, 30, 31, 32, 27, 33, 34, 50, 51, 52, 53, 54, 55, 56, 57, 58] (by decide +kernel) (by decide +kernel)
set_option maxRecDepth 20000 in
theorem gX5_count_X3_countInCells : GoodIn wsX5_count (wsV RX5 212 RX3 yX3_countInCells wsX3_countInCells) := goodIn_app (goodIn_of _ (by decide +kernel)) ggX5_count_X3_countInCells
set_option maxRecDepth 20000 in
theorem ggX5_count_X3_worthTaken : GoodIn wsX5_count wsX3_worthTaken := goodIn_r _ [38, 29, 34, 39, 50, 51, 52, 53, 54, 55, 56, 57, 58] (by decide +kernel) (by decide +kernel)
set_option maxRecDepth 20000 in
theorem gX5_count_X3_worthTaken : GoodIn wsX5_count (wsV RX5 200 RX3 yX3_worthTaken wsX3_worthTaken) := goodIn_app (goodIn_of _ (by decide +kernel)) ggX5_count_X3_worthTaken
theorem dX5_count_0 : decode cX5_count 0 = .ok (.iload_n 1, 1) := by decide +kernel
theorem dX5_count_1 : decode cX5_count 1 = .ok (.tableswitch 129 0 9 #[55, 63, 71, 79, 87, 95, 103, 111, 119, 124], 55) := by decide +kernel
theorem dX5_count_56 : decode cX5_count 56 = .ok (.aload_n 0, 1) := by decide +kernel
theorem dX5_count_57 : decode cX5_count 57 = .ok (.getfield 26, 3) := by decide +kernel
theorem dX5_count_60 : decode cX5_count 60 = .ok (.getfield 206, 3) := by decide +kernel
theorem dX5_count_63 : decode cX5_count 63 = .ok (.ireturn, 1) := by decide +kernel
theorem dX5_count_64 : decode cX5_count 64 = .ok (.aload_n 0, 1) := by decide +kernel
theorem dX5_count_65 : decode cX5_count 65 = .ok (.getfield 26, 3) := by decide +kernel
theorem dX5_count_68 : decode cX5_count 68 = .ok (.getfield 110, 3) := by decide +kernel
theorem dX5_count_71 : decode cX5_count 71 = .ok (.ireturn, 1) := by decide +kernel
theorem dX5_count_72 : decode cX5_count 72 = .ok (.aload_n 0, 1) := by decide +kernel
theorem dX5_count_73 : decode cX5_count 73 = .ok (.getfield 19, 3) := by decide +kernel
theorem dX5_count_76 : decode cX5_count 76 = .ok (.invokevirtual 209, 3) := by decide +kernel
theorem dX5_count_79 : decode cX5_count 79 = .ok (.ireturn, 1) := by decide +kernel
theorem dX5_count_80 : decode cX5_count 80 = .ok (.aload_n 0, 1) := by decide +kernel
theorem dX5_count_81 : decode cX5_count 81 = .ok (.getfield 19, 3) := by decide +kernel
theorem dX5_count_84 : decode cX5_count 84 = .ok (.getfield 86, 3) := by decide +kernel
theorem dX5_count_87 : decode cX5_count 87 = .ok (.ireturn, 1) := by decide +kernel
theorem dX5_count_88 : decode cX5_count 88 = .ok (.aload_n 0, 1) := by decide +kernel
theorem dX5_count_89 : decode cX5_count 89 = .ok (.getfield 26, 3) := by decide +kernel
theorem dX5_count_92 : decode cX5_count 92 = .ok (.invokevirtual 212, 3) := by decide +kernel
theorem dX5_count_95 : decode cX5_count 95 = .ok (.ireturn, 1) := by decide +kernel
theorem dX5_count_96 : decode cX5_count 96 = .ok (.aload_n 0, 1) := by decide +kernel
theorem dX5_count_97 : decode cX5_count 97 = .ok (.getfield 26, 3) := by decide +kernel
theorem dX5_count_100 : decode cX5_count 100 = .ok (.invokevirtual 200, 3) := by decide +kernel
theorem dX5_count_103 : decode cX5_count 103 = .ok (.ireturn, 1) := by decide +kernel
theorem dX5_count_104 : decode cX5_count 104 = .ok (.aload_n 0, 1) := by decide +kernel
theorem dX5_count_105 : decode cX5_count 105 = .ok (.getfield 26, 3) := by decide +kernel
theorem dX5_count_108 : decode cX5_count 108 = .ok (.getfield 178, 3) := by decide +kernel
theorem dX5_count_111 : decode cX5_count 111 = .ok (.ireturn, 1) := by decide +kernel
theorem dX5_count_112 : decode cX5_count 112 = .ok (.aload_n 0, 1) := by decide +kernel
theorem dX5_count_113 : decode cX5_count 113 = .ok (.getfield 10, 3) := by decide +kernel
theorem dX5_count_116 : decode cX5_count 116 = .ok (.getfield 64, 3) := by decide +kernel
theorem dX5_count_119 : decode cX5_count 119 = .ok (.ireturn, 1) := by decide +kernel
theorem dX5_count_120 : decode cX5_count 120 = .ok (.aload_n 0, 1) := by decide +kernel
theorem dX5_count_121 : decode cX5_count 121 = .ok (.getfield 50, 3) := by decide +kernel
theorem dX5_count_124 : decode cX5_count 124 = .ok (.ireturn, 1) := by decide +kernel
theorem dX5_count_125 : decode cX5_count 125 = .ok (.aload_n 0, 1) := by decide +kernel
theorem dX5_count_126 : decode cX5_count 126 = .ok (.getfield 54, 3) := by decide +kernel
theorem dX5_count_129 : decode cX5_count 129 = .ok (.ireturn, 1) := by decide +kernel
theorem dX5_count_130 : decode cX5_count 130 = .ok (.bipush (-102), 2) := by decide +kernel
theorem dX5_count_132 : decode cX5_count 132 = .ok (.ireturn, 1) := by decide +kernel
set_option maxRecDepth 20000 in
theorem ggX5_digest_X5_hasShore : GoodIn wsX5_digest wsX5_hasShore := goodIn_r _ [13, 14, 149, 150, 151, 152, 153, 154, 155, 156, 157, 158] (by decide +kernel) (by decide +kernel)
set_option maxRecDepth 20000 in
theorem gX5_digest_X5_hasShore : GoodIn wsX5_digest (wsV RX5 93 RX5 yX5_hasShore wsX5_hasShore) := goodIn_app (goodIn_of _ (by decide +kernel)) ggX5_digest_X5_hasShore
set_option maxRecDepth 20000 in
theorem ggX5_digest_X5_shoreDigest : GoodIn wsX5_digest wsX5_shoreDigest := goodIn_r _ [18, 4, 19, 20, 21, 2, 22, 23, 24, 25, 12, 26, 27, 28, 29, 30, 9, 10, 11, 13, 14, 31, 32, 33, 34, 35, 36, 37, 38, 39, 40, 41, 42, 43, 44, 45, 46, 47, 48, 49, 50, 51, 52, 53, 54, 55, 56, 57, 58, 59, 60, 61, 62, 63, 64, 65, 66, 67, 68, 69, 70, 71, 72, 73, 74, 75, 76, 77, 78, 79, 80, 81, 82, 83, 84, 85, 86, 87, 88, 149, 150, 151, 152, 153, 154, 155, 156, 157, 158, 170, 171, 172, 173, 159, 160, 161, 162, 163, 164, 165, 166, 167] (by decide +kernel) (by decide +kernel)
set_option maxRecDepth 20000 in
theorem gX5_digest_X5_shoreDigest : GoodIn wsX5_digest (wsV RX5 217 RX5 yX5_shoreDigest wsX5_shoreDigest) := goodIn_app (goodIn_of _ (by decide +kernel)) ggX5_digest_X5_shoreDigest
set_option maxRecDepth 20000 in
theorem ggX5_digest_X5_about : GoodIn wsX5_digest wsX5_about := goodIn_r _ [92, 2, 93, 94, 95, 19, 96, 97, 98, 71, 99, 73, 100, 85, 86, 34, 87, 60, 61, 62, 63, 29, 12, 30, 88, 32, 33, 35, 36, 149, 150, 151, 152, 153, 154, 155, 156, 157, 158, 159, 160, 161, 162, 163, 164, 165, 166, 167, 170, 171, 172, 173] (by decide +kernel) (by decide +kernel)
set_option maxRecDepth 20000 in
theorem gX5_digest_X5_about : GoodIn wsX5_digest (wsV RX5 223 RX5 yX5_about wsX5_about) := goodIn_app (goodIn_of _ (by decide +kernel)) ggX5_digest_X5_about
set_option maxRecDepth 20000 in
theorem ggX5_digest_X5_fits : GoodIn wsX5_digest wsX5_fits := goodIn_r _ [104, 2, 5, 19, 105, 106, 107, 71, 108, 109, 110, 111, 112, 113, 114, 115, 34, 116, 117, 12, 118, 29, 30, 119, 43, 44, 45, 46, 47, 48, 49, 50, 51, 52, 53, 54, 55, 56, 57, 58, 59, 60, 61, 62, 63, 64, 65, 66, 67, 120, 121, 122, 123, 149, 150, 151, 152, 153, 154, 155, 156, 157, 158, 159, 160, 161, 162, 163, 164, 165, 166, 167, 170, 171, 172, 173] (by decide +kernel) (by decide +kernel)
set_option maxRecDepth 20000 in
theorem gX5_digest_X5_fits : GoodIn wsX5_digest (wsV RX5 226 RX5 yX5_fits wsX5_fits) := goodIn_app (goodIn_of _ (by decide +kernel)) ggX5_digest_X5_fits
set_option maxRecDepth 20000 in
theorem ggX5_digest_X5_count : GoodIn wsX5_digest wsX5_count := goodIn_r _ [127, 2, 3, 41, 19, 20, 5, 6, 7, 14, 128, 129, 130, 131, 34, 132, 36, 133, 134, 135, 136, 137, 138, 139, 140, 141, 142, 71, 143, 73, 144, 69, 70, 72, 74, 145, 146, 147, 148, 83, 149, 150, 151, 152, 153, 154, 155, 156, 157, 158, 159, 160, 161, 162, 163, 164, 165, 166, 167, 170, 171, 172, 173, 168, 169] (by decide +kernel) (by decide +kernel)
set_option maxRecDepth 20000 in
theorem gX5_digest_X5_count : GoodIn wsX5_digest (wsV RX5 233 RX5 yX5_count wsX5_count) := goodIn_app (goodIn_of _ (by decide +kernel)) ggX5_digest_X5_count
theorem dX5_digest_0 : decode cX5_digest 0 = .ok (.ldc2_w 215, 3) := by decide +kernel
theorem dX5_digest_3 : decode cX5_digest 3 = .ok (.lstore_n 1, 1) := by decide +kernel
theorem dX5_digest_4 : decode cX5_digest 4 = .ok (.aload_n 0, 1) := by decide +kernel
theorem dX5_digest_5 : decode cX5_digest 5 = .ok (.invokevirtual 93, 3) := by decide +kernel
theorem dX5_digest_8 : decode cX5_digest 8 = .ok (.ifCond .eq 9, 3) := by decide +kernel
theorem dX5_digest_11 : decode cX5_digest 11 = .ok (.aload_n 0, 1) := by decide +kernel
theorem dX5_digest_12 : decode cX5_digest 12 = .ok (.lload_n 1, 1) := by decide +kernel
theorem dX5_digest_13 : decode cX5_digest 13 = .ok (.invokevirtual 217, 3) := by decide +kernel
theorem dX5_digest_16 : decode cX5_digest 16 = .ok (.lstore_n 1, 1) := by decide +kernel
theorem dX5_digest_17 : decode cX5_digest 17 = .ok (.iconst 0, 1) := by decide +kernel
theorem dX5_digest_18 : decode cX5_digest 18 = .ok (.istore_n 3, 1) := by decide +kernel
theorem dX5_digest_19 : decode cX5_digest 19 = .ok (.iload_n 3, 1) := by decide +kernel
theorem dX5_digest_20 : decode cX5_digest 20 = .ok (.aload_n 0, 1) := by decide +kernel
theorem dX5_digest_21 : decode cX5_digest 21 = .ok (.getfield 26, 3) := by decide +kernel
theorem dX5_digest_24 : decode cX5_digest 24 = .ok (.getfield 206, 3) := by decide +kernel
theorem dX5_digest_27 : decode cX5_digest 27 = .ok (.if_icmp .ge 39, 3) := by decide +kernel
theorem dX5_digest_30 : decode cX5_digest 30 = .ok (.iconst 0, 1) := by decide +kernel
theorem dX5_digest_31 : decode cX5_digest 31 = .ok (.istore 4, 2) := by decide +kernel
theorem dX5_digest_33 : decode cX5_digest 33 = .ok (.iload 4, 2) := by decide +kernel
theorem dX5_digest_35 : decode cX5_digest 35 = .ok (.iconst 4, 1) := by decide +kernel
theorem dX5_digest_36 : decode cX5_digest 36 = .ok (.if_icmp .ge 24, 3) := by decide +kernel
theorem dX5_digest_39 : decode cX5_digest 39 = .ok (.ldc2_w 221, 3) := by decide +kernel
theorem dX5_digest_42 : decode cX5_digest 42 = .ok (.lload_n 1, 1) := by decide +kernel
theorem dX5_digest_43 : decode cX5_digest 43 = .ok (.lmul, 1) := by decide +kernel
theorem dX5_digest_44 : decode cX5_digest 44 = .ok (.aload_n 0, 1) := by decide +kernel
theorem dX5_digest_45 : decode cX5_digest 45 = .ok (.iload_n 3, 1) := by decide +kernel
theorem dX5_digest_46 : decode cX5_digest 46 = .ok (.iload 4, 2) := by decide +kernel
theorem dX5_digest_48 : decode cX5_digest 48 = .ok (.invokevirtual 223, 3) := by decide +kernel
theorem dX5_digest_51 : decode cX5_digest 51 = .ok (.i2l, 1) := by decide +kernel
theorem dX5_digest_52 : decode cX5_digest 52 = .ok (.ladd, 1) := by decide +kernel
theorem dX5_digest_53 : decode cX5_digest 53 = .ok (.lstore_n 1, 1) := by decide +kernel
theorem dX5_digest_54 : decode cX5_digest 54 = .ok (.iinc 4 1, 3) := by decide +kernel
theorem dX5_digest_57 : decode cX5_digest 57 = .ok (.goto (-24), 3) := by decide +kernel
theorem dX5_digest_60 : decode cX5_digest 60 = .ok (.iinc 3 1, 3) := by decide +kernel
theorem dX5_digest_63 : decode cX5_digest 63 = .ok (.goto (-44), 3) := by decide +kernel
theorem dX5_digest_66 : decode cX5_digest 66 = .ok (.aload_n 0, 1) := by decide +kernel
theorem dX5_digest_67 : decode cX5_digest 67 = .ok (.getfield 26, 3) := by decide +kernel
theorem dX5_digest_70 : decode cX5_digest 70 = .ok (.getfield 178, 3) := by decide +kernel
theorem dX5_digest_73 : decode cX5_digest 73 = .ok (.ifCond .le 15, 3) := by decide +kernel
theorem dX5_digest_76 : decode cX5_digest 76 = .ok (.ldc2_w 221, 3) := by decide +kernel
theorem dX5_digest_79 : decode cX5_digest 79 = .ok (.lload_n 1, 1) := by decide +kernel
theorem dX5_digest_80 : decode cX5_digest 80 = .ok (.lmul, 1) := by decide +kernel
theorem dX5_digest_81 : decode cX5_digest 81 = .ok (.aload_n 0, 1) := by decide +kernel
theorem dX5_digest_82 : decode cX5_digest 82 = .ok (.invokevirtual 226, 3) := by decide +kernel
theorem dX5_digest_85 : decode cX5_digest 85 = .ok (.i2l, 1) := by decide +kernel
theorem dX5_digest_86 : decode cX5_digest 86 = .ok (.ladd, 1) := by decide +kernel
theorem dX5_digest_87 : decode cX5_digest 87 = .ok (.lstore_n 1, 1) := by decide +kernel
theorem dX5_digest_88 : decode cX5_digest 88 = .ok (.iconst 0, 1) := by decide +kernel
theorem dX5_digest_89 : decode cX5_digest 89 = .ok (.istore_n 3, 1) := by decide +kernel
theorem dX5_digest_90 : decode cX5_digest 90 = .ok (.iload_n 3, 1) := by decide +kernel
theorem dX5_digest_91 : decode cX5_digest 91 = .ok (.aload_n 0, 1) := by decide +kernel
theorem dX5_digest_92 : decode cX5_digest 92 = .ok (.getfield 10, 3) := by decide +kernel
theorem dX5_digest_95 : decode cX5_digest 95 = .ok (.getfield 64, 3) := by decide +kernel
theorem dX5_digest_98 : decode cX5_digest 98 = .ok (.if_icmp .ge 26, 3) := by decide +kernel
theorem dX5_digest_101 : decode cX5_digest 101 = .ok (.ldc2_w 221, 3) := by decide +kernel
theorem dX5_digest_104 : decode cX5_digest 104 = .ok (.lload_n 1, 1) := by decide +kernel
theorem dX5_digest_105 : decode cX5_digest 105 = .ok (.lmul, 1) := by decide +kernel
theorem dX5_digest_106 : decode cX5_digest 106 = .ok (.aload_n 0, 1) := by decide +kernel
theorem dX5_digest_107 : decode cX5_digest 107 = .ok (.getfield 10, 3) := by decide +kernel
theorem dX5_digest_110 : decode cX5_digest 110 = .ok (.getfield 229, 3) := by decide +kernel
theorem dX5_digest_113 : decode cX5_digest 113 = .ok (.iload_n 3, 1) := by decide +kernel
theorem dX5_digest_114 : decode cX5_digest 114 = .ok (.caload, 1) := by decide +kernel
theorem dX5_digest_115 : decode cX5_digest 115 = .ok (.i2l, 1) := by decide +kernel
theorem dX5_digest_116 : decode cX5_digest 116 = .ok (.ladd, 1) := by decide +kernel
theorem dX5_digest_117 : decode cX5_digest 117 = .ok (.lstore_n 1, 1) := by decide +kernel
theorem dX5_digest_118 : decode cX5_digest 118 = .ok (.iinc 3 1, 3) := by decide +kernel
theorem dX5_digest_121 : decode cX5_digest 121 = .ok (.goto (-31), 3) := by decide +kernel
theorem dX5_digest_124 : decode cX5_digest 124 = .ok (.iconst 0, 1) := by decide +kernel
theorem dX5_digest_125 : decode cX5_digest 125 = .ok (.istore_n 3, 1) := by decide +kernel
theorem dX5_digest_126 : decode cX5_digest 126 = .ok (.iload_n 3, 1) := by decide +kernel
theorem dX5_digest_127 : decode cX5_digest 127 = .ok (.bipush 10, 2) := by decide +kernel
theorem dX5_digest_129 : decode cX5_digest 129 = .ok (.if_icmp .ge 22, 3) := by decide +kernel
theorem dX5_digest_132 : decode cX5_digest 132 = .ok (.ldc2_w 221, 3) := by decide +kernel
theorem dX5_digest_135 : decode cX5_digest 135 = .ok (.lload_n 1, 1) := by decide +kernel
theorem dX5_digest_136 : decode cX5_digest 136 = .ok (.lmul, 1) := by decide +kernel
theorem dX5_digest_137 : decode cX5_digest 137 = .ok (.aload_n 0, 1) := by decide +kernel
theorem dX5_digest_138 : decode cX5_digest 138 = .ok (.iload_n 3, 1) := by decide +kernel
theorem dX5_digest_139 : decode cX5_digest 139 = .ok (.invokevirtual 233, 3) := by decide +kernel
theorem dX5_digest_142 : decode cX5_digest 142 = .ok (.i2l, 1) := by decide +kernel
theorem dX5_digest_143 : decode cX5_digest 143 = .ok (.ladd, 1) := by decide +kernel
theorem dX5_digest_144 : decode cX5_digest 144 = .ok (.lstore_n 1, 1) := by decide +kernel
theorem dX5_digest_145 : decode cX5_digest 145 = .ok (.iinc 3 1, 3) := by decide +kernel
theorem dX5_digest_148 : decode cX5_digest 148 = .ok (.goto (-22), 3) := by decide +kernel
theorem dX5_digest_151 : decode cX5_digest 151 = .ok (.lload_n 1, 1) := by decide +kernel
theorem dX5_digest_152 : decode cX5_digest 152 = .ok (.lreturn, 1) := by decide +kernel
set_option maxRecDepth 20000 in
theorem ggX5_shoreDigest_X5_cell : GoodIn wsX5_shoreDigest wsX5_cell := goodIn_r _ [11, 2, 12, 5, 13, 14, 10, 15, 16, 17, 18, 19, 20, 21, 22, 23, 24, 25, 26, 27, 28, 29, 30, 31, 6, 32, 33, 34, 35, 36, 37, 38, 39, 40, 41, 42, 43, 44, 45, 46, 47, 48, 49, 50, 51, 52, 53, 54, 55, 56, 57, 58, 59, 60, 61, 62, 63, 64, 79, 80, 81, 82, 83, 84, 85, 86, 87, 88, 89, 90, 91, 92, 93, 94, 95, 96, 97, 98, 99, 100, 101] (by decide +kernel) (by decide +kernel)
set_option maxRecDepth 20000 in
theorem gX5_shoreDigest_X5_cell : GoodIn wsX5_shoreDigest (wsV RX5 236 RX5 yX5_cell wsX5_cell) := goodIn_app (goodIn_of _ (by decide +kernel)) ggX5_shoreDigest_X5_cell
set_option maxRecDepth 20000 in
theorem ggX5_shoreDigest_X5_newStair : GoodIn wsX5_shoreDigest wsX5_newStair := goodIn_r _ [68, 2, 5, 16, 17, 18, 10, 19, 20, 21, 22, 23, 24, 25, 26, 14, 15, 69, 70, 71, 61, 72, 63, 64, 73, 74, 75, 76, 77, 50, 51, 52, 53, 78, 79, 80, 81, 82, 83, 84, 85, 86, 87, 88, 89, 90, 91, 92, 93, 94, 95, 96, 97, 98, 99, 100, 101] (by decide +kernel) (by decide +kernel)
set_option maxRecDepth 20000 in
theorem gX5_shoreDigest_X5_newStair : GoodIn wsX5_shoreDigest (wsV RX5 242 RX5 yX5_newStair wsX5_newStair) := goodIn_app (goodIn_of _ (by decide +kernel)) ggX5_shoreDigest_X5_newStair
theorem dX5_shoreDigest_0 : decode cX5_shoreDigest 0 = .ok (.lload_n 1, 1) := by decide +kernel
theorem dX5_shoreDigest_1 : decode cX5_shoreDigest 1 = .ok (.lstore_n 3, 1) := by decide +kernel
theorem dX5_shoreDigest_2 : decode cX5_shoreDigest 2 = .ok (.iconst 0, 1) := by decide +kernel
theorem dX5_shoreDigest_3 : decode cX5_shoreDigest 3 = .ok (.istore 5, 2) := by decide +kernel
theorem dX5_shoreDigest_5 : decode cX5_shoreDigest 5 = .ok (.iload 5, 2) := by decide +kernel
theorem dX5_shoreDigest_7 : decode cX5_shoreDigest 7 = .ok (.bipush 8, 2) := by decide +kernel
theorem dX5_shoreDigest_9 : decode cX5_shoreDigest 9 = .ok (.if_icmp .ge 40, 3) := by decide +kernel
theorem dX5_shoreDigest_12 : decode cX5_shoreDigest 12 = .ok (.iconst 0, 1) := by decide +kernel
theorem dX5_shoreDigest_13 : decode cX5_shoreDigest 13 = .ok (.istore 6, 2) := by decide +kernel
theorem dX5_shoreDigest_15 : decode cX5_shoreDigest 15 = .ok (.iload 6, 2) := by decide +kernel
theorem dX5_shoreDigest_17 : decode cX5_shoreDigest 17 = .ok (.iconst 4, 1) := by decide +kernel
theorem dX5_shoreDigest_18 : decode cX5_shoreDigest 18 = .ok (.if_icmp .ge 25, 3) := by decide +kernel
theorem dX5_shoreDigest_21 : decode cX5_shoreDigest 21 = .ok (.ldc2_w 221, 3) := by decide +kernel
theorem dX5_shoreDigest_24 : decode cX5_shoreDigest 24 = .ok (.lload_n 3, 1) := by decide +kernel
theorem dX5_shoreDigest_25 : decode cX5_shoreDigest 25 = .ok (.lmul, 1) := by decide +kernel
theorem dX5_shoreDigest_26 : decode cX5_shoreDigest 26 = .ok (.aload_n 0, 1) := by decide +kernel
theorem dX5_shoreDigest_27 : decode cX5_shoreDigest 27 = .ok (.iload 5, 2) := by decide +kernel
theorem dX5_shoreDigest_29 : decode cX5_shoreDigest 29 = .ok (.iload 6, 2) := by decide +kernel
theorem dX5_shoreDigest_31 : decode cX5_shoreDigest 31 = .ok (.invokevirtual 236, 3) := by decide +kernel
theorem dX5_shoreDigest_34 : decode cX5_shoreDigest 34 = .ok (.i2l, 1) := by decide +kernel
theorem dX5_shoreDigest_35 : decode cX5_shoreDigest 35 = .ok (.ladd, 1) := by decide +kernel
theorem dX5_shoreDigest_36 : decode cX5_shoreDigest 36 = .ok (.lstore_n 3, 1) := by decide +kernel
theorem dX5_shoreDigest_37 : decode cX5_shoreDigest 37 = .ok (.iinc 6 1, 3) := by decide +kernel
theorem dX5_shoreDigest_40 : decode cX5_shoreDigest 40 = .ok (.goto (-25), 3) := by decide +kernel
theorem dX5_shoreDigest_43 : decode cX5_shoreDigest 43 = .ok (.iinc 5 1, 3) := by decide +kernel
theorem dX5_shoreDigest_46 : decode cX5_shoreDigest 46 = .ok (.goto (-41), 3) := by decide +kernel
theorem dX5_shoreDigest_49 : decode cX5_shoreDigest 49 = .ok (.iconst 0, 1) := by decide +kernel
theorem dX5_shoreDigest_50 : decode cX5_shoreDigest 50 = .ok (.istore 5, 2) := by decide +kernel
theorem dX5_shoreDigest_52 : decode cX5_shoreDigest 52 = .ok (.iload 5, 2) := by decide +kernel
theorem dX5_shoreDigest_54 : decode cX5_shoreDigest 54 = .ok (.aload_n 0, 1) := by decide +kernel
theorem dX5_shoreDigest_55 : decode cX5_shoreDigest 55 = .ok (.getfield 19, 3) := by decide +kernel
theorem dX5_shoreDigest_58 : decode cX5_shoreDigest 58 = .ok (.getfield 86, 3) := by decide +kernel
theorem dX5_shoreDigest_61 : decode cX5_shoreDigest 61 = .ok (.if_icmp .ge 27, 3) := by decide +kernel
theorem dX5_shoreDigest_64 : decode cX5_shoreDigest 64 = .ok (.ldc2_w 221, 3) := by decide +kernel
theorem dX5_shoreDigest_67 : decode cX5_shoreDigest 67 = .ok (.lload_n 3, 1) := by decide +kernel
theorem dX5_shoreDigest_68 : decode cX5_shoreDigest 68 = .ok (.lmul, 1) := by decide +kernel
theorem dX5_shoreDigest_69 : decode cX5_shoreDigest 69 = .ok (.aload_n 0, 1) := by decide +kernel
theorem dX5_shoreDigest_70 : decode cX5_shoreDigest 70 = .ok (.getfield 19, 3) := by decide +kernel
theorem dX5_shoreDigest_73 : decode cX5_shoreDigest 73 = .ok (.getfield 239, 3) := by decide +kernel
theorem dX5_shoreDigest_76 : decode cX5_shoreDigest 76 = .ok (.iload 5, 2) := by decide +kernel
theorem dX5_shoreDigest_78 : decode cX5_shoreDigest 78 = .ok (.iaload, 1) := by decide +kernel
theorem dX5_shoreDigest_79 : decode cX5_shoreDigest 79 = .ok (.i2l, 1) := by decide +kernel
theorem dX5_shoreDigest_80 : decode cX5_shoreDigest 80 = .ok (.ladd, 1) := by decide +kernel
theorem dX5_shoreDigest_81 : decode cX5_shoreDigest 81 = .ok (.lstore_n 3, 1) := by decide +kernel
theorem dX5_shoreDigest_82 : decode cX5_shoreDigest 82 = .ok (.iinc 5 1, 3) := by decide +kernel
theorem dX5_shoreDigest_85 : decode cX5_shoreDigest 85 = .ok (.goto (-33), 3) := by decide +kernel
theorem dX5_shoreDigest_88 : decode cX5_shoreDigest 88 = .ok (.ldc2_w 221, 3) := by decide +kernel
theorem dX5_shoreDigest_91 : decode cX5_shoreDigest 91 = .ok (.lload_n 3, 1) := by decide +kernel
theorem dX5_shoreDigest_92 : decode cX5_shoreDigest 92 = .ok (.lmul, 1) := by decide +kernel
theorem dX5_shoreDigest_93 : decode cX5_shoreDigest 93 = .ok (.aload_n 0, 1) := by decide +kernel
theorem dX5_shoreDigest_94 : decode cX5_shoreDigest 94 = .ok (.getfield 26, 3) := by decide +kernel
theorem dX5_shoreDigest_97 : decode cX5_shoreDigest 97 = .ok (.getfield 116, 3) := by decide +kernel
theorem dX5_shoreDigest_100 : decode cX5_shoreDigest 100 = .ok (.i2l, 1) := by decide +kernel
theorem dX5_shoreDigest_101 : decode cX5_shoreDigest 101 = .ok (.ladd, 1) := by decide +kernel
theorem dX5_shoreDigest_102 : decode cX5_shoreDigest 102 = .ok (.lstore_n 3, 1) := by decide +kernel
theorem dX5_shoreDigest_103 : decode cX5_shoreDigest 103 = .ok (.ldc2_w 221, 3) := by decide +kernel
theorem dX5_shoreDigest_106 : decode cX5_shoreDigest 106 = .ok (.lload_n 3, 1) := by decide +kernel
theorem dX5_shoreDigest_107 : decode cX5_shoreDigest 107 = .ok (.lmul, 1) := by decide +kernel
theorem dX5_shoreDigest_108 : decode cX5_shoreDigest 108 = .ok (.aload_n 0, 1) := by decide +kernel
theorem dX5_shoreDigest_109 : decode cX5_shoreDigest 109 = .ok (.invokevirtual 242, 3) := by decide +kernel
theorem dX5_shoreDigest_112 : decode cX5_shoreDigest 112 = .ok (.i2l, 1) := by decide +kernel
theorem dX5_shoreDigest_113 : decode cX5_shoreDigest 113 = .ok (.ladd, 1) := by decide +kernel
theorem dX5_shoreDigest_114 : decode cX5_shoreDigest 114 = .ok (.lreturn, 1) := by decide +kernel
theorem dX5_hasShore_0 : decode cX5_hasShore 0 = .ok (.aload_n 0, 1) := by decide +kernel
theorem dX5_hasShore_1 : decode cX5_hasShore 1 = .ok (.getfield 50, 3) := by decide +kernel
theorem dX5_hasShore_4 : decode cX5_hasShore 4 = .ok (.ifCond .le 7, 3) := by decide +kernel
theorem dX5_hasShore_7 : decode cX5_hasShore 7 = .ok (.iconst 1, 1) := by decide +kernel
theorem dX5_hasShore_8 : decode cX5_hasShore 8 = .ok (.goto 4, 3) := by decide +kernel
theorem dX5_hasShore_11 : decode cX5_hasShore 11 = .ok (.iconst 0, 1) := by decide +kernel
theorem dX5_hasShore_12 : decode cX5_hasShore 12 = .ok (.ireturn, 1) := by decide +kernel
set_option maxRecDepth 20000 in
theorem ggX5_isDryNow_X4_isDry : GoodIn wsX5_isDryNow wsX4_isDry := goodIn_r _ [9, 10, 11, 12, 13, 14, 15, 8, 16, 17, 18, 19, 20, 21, 22, 23, 24, 25, 26, 27, 28, 29, 30, 31, 32, 33, 34, 54, 55, 56, 57] (by decide +kernel) (by decide +kernel)
set_option maxRecDepth 20000 in
theorem gX5_isDryNow_X4_isDry : GoodIn wsX5_isDryNow (wsV RX5 174 RX4 yX4_isDry wsX4_isDry) := goodIn_app (goodIn_of _ (by decide +kernel)) ggX5_isDryNow_X4_isDry
theorem dX5_isDryNow_0 : decode cX5_isDryNow 0 = .ok (.aload_n 0, 1) := by decide +kernel
theorem dX5_isDryNow_1 : decode cX5_isDryNow 1 = .ok (.getfield 19, 3) := by decide +kernel
theorem dX5_isDryNow_4 : decode cX5_isDryNow 4 = .ok (.iload_n 1, 1) := by decide +kernel
theorem dX5_isDryNow_5 : decode cX5_isDryNow 5 = .ok (.aload_n 0, 1) := by decide +kernel
theorem dX5_isDryNow_6 : decode cX5_isDryNow 6 = .ok (.getfield 26, 3) := by decide +kernel
theorem dX5_isDryNow_9 : decode cX5_isDryNow 9 = .ok (.getfield 110, 3) := by decide +kernel
theorem dX5_isDryNow_12 : decode cX5_isDryNow 12 = .ok (.aload_n 0, 1) := by decide +kernel
theorem dX5_isDryNow_13 : decode cX5_isDryNow 13 = .ok (.getfield 26, 3) := by decide +kernel
theorem dX5_isDryNow_16 : decode cX5_isDryNow 16 = .ok (.getfield 116, 3) := by decide +kernel
theorem dX5_isDryNow_19 : decode cX5_isDryNow 19 = .ok (.invokevirtual 174, 3) := by decide +kernel
theorem dX5_isDryNow_22 : decode cX5_isDryNow 22 = .ok (.ireturn, 1) := by decide +kernel
set_option maxRecDepth 20000 in
theorem ggX5_placeNow_X4_drifted : GoodIn wsX5_placeNow wsX4_drifted := goodIn_r _ [9, 10, 11, 12, 13, 14, 15, 16, 17, 8, 18, 19, 20, 21, 22, 23, 24, 25, 26, 27, 28, 29, 30, 31, 32, 33, 34, 35, 36, 37, 38, 39, 40, 41, 42, 43, 44, 64, 65, 66, 67] (by decide +kernel) (by decide +kernel)
set_option maxRecDepth 20000 in
theorem gX5_placeNow_X4_drifted : GoodIn wsX5_placeNow (wsV RX5 245 RX4 yX4_drifted wsX4_drifted) := goodIn_app (goodIn_of _ (by decide +kernel)) ggX5_placeNow_X4_drifted
theorem dX5_placeNow_0 : decode cX5_placeNow 0 = .ok (.iload_n 2, 1) := by decide +kernel
theorem dX5_placeNow_1 : decode cX5_placeNow 1 = .ok (.istore 4, 2) := by decide +kernel
theorem dX5_placeNow_3 : decode cX5_placeNow 3 = .ok (.aload_n 0, 1) := by decide +kernel
theorem dX5_placeNow_4 : decode cX5_placeNow 4 = .ok (.getfield 26, 3) := by decide +kernel
theorem dX5_placeNow_7 : decode cX5_placeNow 7 = .ok (.getfield 110, 3) := by decide +kernel
theorem dX5_placeNow_10 : decode cX5_placeNow 10 = .ok (.iload_n 3, 1) := by decide +kernel
theorem dX5_placeNow_11 : decode cX5_placeNow 11 = .ok (.isub, 1) := by decide +kernel
theorem dX5_placeNow_12 : decode cX5_placeNow 12 = .ok (.istore 5, 2) := by decide +kernel
theorem dX5_placeNow_14 : decode cX5_placeNow 14 = .ok (.iload 5, 2) := by decide +kernel
theorem dX5_placeNow_16 : decode cX5_placeNow 16 = .ok (.aload_n 0, 1) := by decide +kernel
theorem dX5_placeNow_17 : decode cX5_placeNow 17 = .ok (.getfield 26, 3) := by decide +kernel
theorem dX5_placeNow_20 : decode cX5_placeNow 20 = .ok (.getfield 110, 3) := by decide +kernel
theorem dX5_placeNow_23 : decode cX5_placeNow 23 = .ok (.if_icmp .ge 30, 3) := by decide +kernel
theorem dX5_placeNow_26 : decode cX5_placeNow 26 = .ok (.aload_n 0, 1) := by decide +kernel
theorem dX5_placeNow_27 : decode cX5_placeNow 27 = .ok (.getfield 19, 3) := by decide +kernel
theorem dX5_placeNow_30 : decode cX5_placeNow 30 = .ok (.iload_n 1, 1) := by decide +kernel
theorem dX5_placeNow_31 : decode cX5_placeNow 31 = .ok (.iload 4, 2) := by decide +kernel
theorem dX5_placeNow_33 : decode cX5_placeNow 33 = .ok (.iload 5, 2) := by decide +kernel
theorem dX5_placeNow_35 : decode cX5_placeNow 35 = .ok (.aload_n 0, 1) := by decide +kernel
theorem dX5_placeNow_36 : decode cX5_placeNow 36 = .ok (.getfield 26, 3) := by decide +kernel
theorem dX5_placeNow_39 : decode cX5_placeNow 39 = .ok (.getfield 116, 3) := by decide +kernel
theorem dX5_placeNow_42 : decode cX5_placeNow 42 = .ok (.invokevirtual 245, 3) := by decide +kernel
theorem dX5_placeNow_45 : decode cX5_placeNow 45 = .ok (.istore 4, 2) := by decide +kernel
theorem dX5_placeNow_47 : decode cX5_placeNow 47 = .ok (.iinc 5 1, 3) := by decide +kernel
theorem dX5_placeNow_50 : decode cX5_placeNow 50 = .ok (.goto (-36), 3) := by decide +kernel
theorem dX5_placeNow_53 : decode cX5_placeNow 53 = .ok (.iload 4, 2) := by decide +kernel
theorem dX5_placeNow_55 : decode cX5_placeNow 55 = .ok (.ireturn, 1) := by decide +kernel
theorem dX5_isCell_0 : decode cX5_isCell 0 = .ok (.iload_n 0, 1) := by decide +kernel
theorem dX5_isCell_1 : decode cX5_isCell 1 = .ok (.ifCond .lt 13, 3) := by decide +kernel
theorem dX5_isCell_4 : decode cX5_isCell 4 = .ok (.iload_n 0, 1) := by decide +kernel
theorem dX5_isCell_5 : decode cX5_isCell 5 = .ok (.bipush 8, 2) := by decide +kernel
theorem dX5_isCell_7 : decode cX5_isCell 7 = .ok (.if_icmp .ge 7, 3) := by decide +kernel
theorem dX5_isCell_10 : decode cX5_isCell 10 = .ok (.iconst 1, 1) := by decide +kernel
theorem dX5_isCell_11 : decode cX5_isCell 11 = .ok (.goto 4, 3) := by decide +kernel
theorem dX5_isCell_14 : decode cX5_isCell 14 = .ok (.iconst 0, 1) := by decide +kernel
theorem dX5_isCell_15 : decode cX5_isCell 15 = .ok (.ireturn, 1) := by decide +kernel
theorem dX5_isKind_0 : decode cX5_isKind 0 = .ok (.iload_n 0, 1) := by decide +kernel
theorem dX5_isKind_1 : decode cX5_isKind 1 = .ok (.ifCond .lt 12, 3) := by decide +kernel
theorem dX5_isKind_4 : decode cX5_isKind 4 = .ok (.iload_n 0, 1) := by decide +kernel
theorem dX5_isKind_5 : decode cX5_isKind 5 = .ok (.iconst 5, 1) := by decide +kernel
theorem dX5_isKind_6 : decode cX5_isKind 6 = .ok (.if_icmp .ge 7, 3) := by decide +kernel
theorem dX5_isKind_9 : decode cX5_isKind 9 = .ok (.iconst 1, 1) := by decide +kernel
theorem dX5_isKind_10 : decode cX5_isKind 10 = .ok (.goto 4, 3) := by decide +kernel
theorem dX5_isKind_13 : decode cX5_isKind 13 = .ok (.iconst 0, 1) := by decide +kernel
theorem dX5_isKind_14 : decode cX5_isKind 14 = .ok (.ireturn, 1) := by decide +kernel
theorem dX5_isOfKind_0 : decode cX5_isOfKind 0 = .ok (.iload_n 1, 1) := by decide +kernel
theorem dX5_isOfKind_1 : decode cX5_isOfKind 1 = .ok (.ifCond .eq 18, 3) := by decide +kernel
theorem dX5_isOfKind_4 : decode cX5_isOfKind 4 = .ok (.iload_n 1, 1) := by decide +kernel
theorem dX5_isOfKind_5 : decode cX5_isOfKind 5 = .ok (.iload_n 0, 1) := by decide +kernel
theorem dX5_isOfKind_6 : decode cX5_isOfKind 6 = .ok (.if_icmp .eq 13, 3) := by decide +kernel
theorem dX5_isOfKind_9 : decode cX5_isOfKind 9 = .ok (.iload_n 1, 1) := by decide +kernel
theorem dX5_isOfKind_10 : decode cX5_isOfKind 10 = .ok (.iconst 1, 1) := by decide +kernel
theorem dX5_isOfKind_11 : decode cX5_isOfKind 11 = .ok (.if_icmp .ne 12, 3) := by decide +kernel
theorem dX5_isOfKind_14 : decode cX5_isOfKind 14 = .ok (.iload_n 0, 1) := by decide +kernel
theorem dX5_isOfKind_15 : decode cX5_isOfKind 15 = .ok (.iconst 4, 1) := by decide +kernel
theorem dX5_isOfKind_16 : decode cX5_isOfKind 16 = .ok (.if_icmp .ne 7, 3) := by decide +kernel
theorem dX5_isOfKind_19 : decode cX5_isOfKind 19 = .ok (.iconst 1, 1) := by decide +kernel
theorem dX5_isOfKind_20 : decode cX5_isOfKind 20 = .ok (.goto 4, 3) := by decide +kernel
theorem dX5_isOfKind_23 : decode cX5_isOfKind 23 = .ok (.iconst 0, 1) := by decide +kernel
theorem dX5_isOfKind_24 : decode cX5_isOfKind 24 = .ok (.ireturn, 1) := by decide +kernel

theorem dX0_init_0 : decode cX0_init 0 = .ok (.aload_n 0, 1) := by decide +kernel
theorem dX0_init_1 : decode cX0_init 1 = .ok (.invokespecial 3, 3) := by decide +kernel
theorem dX0_init_4 : decode cX0_init 4 = .ok (.aload_n 0, 1) := by decide +kernel
theorem dX0_init_5 : decode cX0_init 5 = .ok (.bipush 64, 2) := by decide +kernel
theorem dX0_init_7 : decode cX0_init 7 = .ok (.newarray .int, 2) := by decide +kernel
theorem dX0_init_9 : decode cX0_init 9 = .ok (.putfield 11, 3) := by decide +kernel
theorem dX0_init_12 : decode cX0_init 12 = .ok (.aload_n 0, 1) := by decide +kernel
theorem dX0_init_13 : decode cX0_init 13 = .ok (.bipush 64, 2) := by decide +kernel
theorem dX0_init_15 : decode cX0_init 15 = .ok (.newarray .boolean, 2) := by decide +kernel
theorem dX0_init_17 : decode cX0_init 17 = .ok (.putfield 15, 3) := by decide +kernel
theorem dX0_init_20 : decode cX0_init 20 = .ok (.aload_n 0, 1) := by decide +kernel
theorem dX0_init_21 : decode cX0_init 21 = .ok (.bipush 8, 2) := by decide +kernel
theorem dX0_init_23 : decode cX0_init 23 = .ok (.newarray .boolean, 2) := by decide +kernel
theorem dX0_init_25 : decode cX0_init 25 = .ok (.putfield 19, 3) := by decide +kernel
theorem dX0_init_28 : decode cX0_init 28 = .ok (.aload_n 0, 1) := by decide +kernel
theorem dX0_init_29 : decode cX0_init 29 = .ok (.bipush 8, 2) := by decide +kernel
theorem dX0_init_31 : decode cX0_init 31 = .ok (.newarray .int, 2) := by decide +kernel
theorem dX0_init_33 : decode cX0_init 33 = .ok (.putfield 22, 3) := by decide +kernel
theorem dX0_init_36 : decode cX0_init 36 = .ok (.aload_n 0, 1) := by decide +kernel
theorem dX0_init_37 : decode cX0_init 37 = .ok (.iconst 0, 1) := by decide +kernel
theorem dX0_init_38 : decode cX0_init 38 = .ok (.putfield 25, 3) := by decide +kernel
theorem dX0_init_41 : decode cX0_init 41 = .ok (.aload_n 0, 1) := by decide +kernel
theorem dX0_init_42 : decode cX0_init 42 = .ok (.iconst (-1), 1) := by decide +kernel
theorem dX0_init_43 : decode cX0_init 43 = .ok (.putfield 29, 3) := by decide +kernel
theorem dX0_init_46 : decode cX0_init 46 = .ok (.return_, 1) := by decide +kernel
set_option maxRecDepth 20000 in
theorem ggX0_lookAhead_X4_hasStair : GoodIn wsX0_lookAhead wsX4_hasStair := goodIn_r _ [20, 21, 22, 23, 24, 95, 96, 97, 98] (by decide +kernel) (by decide +kernel)
set_option maxRecDepth 20000 in
theorem gX0_lookAhead_X4_hasStair : GoodIn wsX0_lookAhead (wsV RX0 50 RX4 yX4_hasStair wsX4_hasStair) := goodIn_app (goodIn_of _ (by decide +kernel)) ggX0_lookAhead_X4_hasStair
set_option maxRecDepth 20000 in
theorem ggX0_lookAhead_X0_look : GoodIn wsX0_lookAhead wsX0_look := goodIn_r _ [29, 30, 31, 32, 33, 34, 35, 36, 37, 38, 19, 39, 22, 23, 24, 40, 41, 42, 43, 44, 45, 46, 47, 48, 49, 50, 51, 52, 53, 54, 55, 3, 56, 57, 58, 6, 7, 80, 81, 82, 83, 84, 85, 86, 87, 88, 89, 90, 91, 92, 93, 94, 95, 96, 97, 98] (by decide +kernel) (by decide +kernel)
set_option maxRecDepth 20000 in
theorem gX0_lookAhead_X0_look : GoodIn wsX0_lookAhead (wsV RX0 56 RX0 yX0_look wsX0_look) := goodIn_app (goodIn_of _ (by decide +kernel)) ggX0_lookAhead_X0_look
set_option maxRecDepth 20000 in
theorem ggX0_lookAhead_X3_goOn : GoodIn wsX0_lookAhead wsX3_goOn := goodIn_r _ [63, 64, 65, 66, 67, 68, 69, 70, 71, 19, 72, 73, 23, 74, 22, 24, 75, 37, 38, 39, 40, 41, 42, 43, 44, 45, 46, 47, 48, 49, 50, 51, 52, 53, 54, 55, 3, 56, 57, 58, 6, 7, 76, 77, 78, 79, 86, 87, 88, 89, 90, 91, 92, 93, 94, 95, 96, 97, 98] (by decide +kernel) (by decide +kernel)
set_option maxRecDepth 20000 in
theorem gX0_lookAhead_X3_goOn : GoodIn wsX0_lookAhead (wsV RX0 60 RX3 yX3_goOn wsX3_goOn) := goodIn_app (goodIn_of _ (by decide +kernel)) ggX0_lookAhead_X3_goOn
theorem dX0_lookAhead_0 : decode cX0_lookAhead 0 = .ok (.aload_n 0, 1) := by decide +kernel
theorem dX0_lookAhead_1 : decode cX0_lookAhead 1 = .ok (.iconst 0, 1) := by decide +kernel
theorem dX0_lookAhead_2 : decode cX0_lookAhead 2 = .ok (.iload_n 3, 1) := by decide +kernel
theorem dX0_lookAhead_3 : decode cX0_lookAhead 3 = .ok (.bipush 7, 2) := by decide +kernel
theorem dX0_lookAhead_5 : decode cX0_lookAhead 5 = .ok (.invokestatic 32, 3) := by decide +kernel
theorem dX0_lookAhead_8 : decode cX0_lookAhead 8 = .ok (.invokestatic 38, 3) := by decide +kernel
theorem dX0_lookAhead_11 : decode cX0_lookAhead 11 = .ok (.putfield 25, 3) := by decide +kernel
theorem dX0_lookAhead_14 : decode cX0_lookAhead 14 = .ok (.aload_n 1, 1) := by decide +kernel
theorem dX0_lookAhead_15 : decode cX0_lookAhead 15 = .ok (.getfield 41, 3) := by decide +kernel
theorem dX0_lookAhead_18 : decode cX0_lookAhead 18 = .ok (.iconst 0, 1) := by decide +kernel
theorem dX0_lookAhead_19 : decode cX0_lookAhead 19 = .ok (.aload_n 0, 1) := by decide +kernel
theorem dX0_lookAhead_20 : decode cX0_lookAhead 20 = .ok (.getfield 22, 3) := by decide +kernel
theorem dX0_lookAhead_23 : decode cX0_lookAhead 23 = .ok (.iconst 0, 1) := by decide +kernel
theorem dX0_lookAhead_24 : decode cX0_lookAhead 24 = .ok (.bipush 8, 2) := by decide +kernel
theorem dX0_lookAhead_26 : decode cX0_lookAhead 26 = .ok (.invokestatic 44, 3) := by decide +kernel
theorem dX0_lookAhead_29 : decode cX0_lookAhead 29 = .ok (.iconst 0, 1) := by decide +kernel
theorem dX0_lookAhead_30 : decode cX0_lookAhead 30 = .ok (.istore 4, 2) := by decide +kernel
theorem dX0_lookAhead_32 : decode cX0_lookAhead 32 = .ok (.iload 4, 2) := by decide +kernel
theorem dX0_lookAhead_34 : decode cX0_lookAhead 34 = .ok (.bipush 8, 2) := by decide +kernel
theorem dX0_lookAhead_36 : decode cX0_lookAhead 36 = .ok (.if_icmp .ge 22, 3) := by decide +kernel
theorem dX0_lookAhead_39 : decode cX0_lookAhead 39 = .ok (.aload_n 0, 1) := by decide +kernel
theorem dX0_lookAhead_40 : decode cX0_lookAhead 40 = .ok (.getfield 19, 3) := by decide +kernel
theorem dX0_lookAhead_43 : decode cX0_lookAhead 43 = .ok (.iload 4, 2) := by decide +kernel
theorem dX0_lookAhead_45 : decode cX0_lookAhead 45 = .ok (.aload_n 2, 1) := by decide +kernel
theorem dX0_lookAhead_46 : decode cX0_lookAhead 46 = .ok (.iload 4, 2) := by decide +kernel
theorem dX0_lookAhead_48 : decode cX0_lookAhead 48 = .ok (.invokevirtual 50, 3) := by decide +kernel
theorem dX0_lookAhead_51 : decode cX0_lookAhead 51 = .ok (.bastore, 1) := by decide +kernel
theorem dX0_lookAhead_52 : decode cX0_lookAhead 52 = .ok (.iinc 4 1, 3) := by decide +kernel
theorem dX0_lookAhead_55 : decode cX0_lookAhead 55 = .ok (.goto (-23), 3) := by decide +kernel
theorem dX0_lookAhead_58 : decode cX0_lookAhead 58 = .ok (.iconst 0, 1) := by decide +kernel
theorem dX0_lookAhead_59 : decode cX0_lookAhead 59 = .ok (.istore 4, 2) := by decide +kernel
theorem dX0_lookAhead_61 : decode cX0_lookAhead 61 = .ok (.iload 4, 2) := by decide +kernel
theorem dX0_lookAhead_63 : decode cX0_lookAhead 63 = .ok (.aload_n 0, 1) := by decide +kernel
theorem dX0_lookAhead_64 : decode cX0_lookAhead 64 = .ok (.getfield 25, 3) := by decide +kernel
theorem dX0_lookAhead_67 : decode cX0_lookAhead 67 = .ok (.if_icmp .gt 26, 3) := by decide +kernel
theorem dX0_lookAhead_70 : decode cX0_lookAhead 70 = .ok (.aload_n 0, 1) := by decide +kernel
theorem dX0_lookAhead_71 : decode cX0_lookAhead 71 = .ok (.iload 4, 2) := by decide +kernel
theorem dX0_lookAhead_73 : decode cX0_lookAhead 73 = .ok (.bipush 8, 2) := by decide +kernel
theorem dX0_lookAhead_75 : decode cX0_lookAhead 75 = .ok (.imul, 1) := by decide +kernel
theorem dX0_lookAhead_76 : decode cX0_lookAhead 76 = .ok (.aload_n 1, 1) := by decide +kernel
theorem dX0_lookAhead_77 : decode cX0_lookAhead 77 = .ok (.aload_n 2, 1) := by decide +kernel
theorem dX0_lookAhead_78 : decode cX0_lookAhead 78 = .ok (.invokevirtual 56, 3) := by decide +kernel
theorem dX0_lookAhead_81 : decode cX0_lookAhead 81 = .ok (.aload_n 1, 1) := by decide +kernel
theorem dX0_lookAhead_82 : decode cX0_lookAhead 82 = .ok (.aload_n 2, 1) := by decide +kernel
theorem dX0_lookAhead_83 : decode cX0_lookAhead 83 = .ok (.invokevirtual 60, 3) := by decide +kernel
theorem dX0_lookAhead_86 : decode cX0_lookAhead 86 = .ok (.pop, 1) := by decide +kernel
theorem dX0_lookAhead_87 : decode cX0_lookAhead 87 = .ok (.iinc 4 1, 3) := by decide +kernel
theorem dX0_lookAhead_90 : decode cX0_lookAhead 90 = .ok (.goto (-29), 3) := by decide +kernel
theorem dX0_lookAhead_93 : decode cX0_lookAhead 93 = .ok (.return_, 1) := by decide +kernel
set_option maxRecDepth 20000 in
theorem ggX0_look_X4_isDry : GoodIn wsX0_look wsX4_isDry := goodIn_r _ [11, 12, 13, 14, 15, 16, 17, 10, 18, 19, 20, 21, 22, 23, 24, 25, 26, 27, 28, 29, 30, 31, 32, 33, 34, 35, 36, 52, 53, 54, 55] (by decide +kernel) (by decide +kernel)
set_option maxRecDepth 20000 in
theorem gX0_look_X4_isDry : GoodIn wsX0_look (wsV RX0 70 RX4 yX4_isDry wsX4_isDry) := goodIn_app (goodIn_of _ (by decide +kernel)) ggX0_look_X4_isDry
set_option maxRecDepth 20000 in
theorem ggX0_look_X5_isCell : GoodIn wsX0_look wsX5_isCell := goodIn_r _ [14] (by decide +kernel) (by decide +kernel)
set_option maxRecDepth 20000 in
theorem gX0_look_X5_isCell_n80 : GoodIn wsX0_look (wsX5_isCell) := ggX0_look_X5_isCell
theorem dX0_look_0 : decode cX0_look 0 = .ok (.iconst 0, 1) := by decide +kernel
theorem dX0_look_1 : decode cX0_look 1 = .ok (.istore 4, 2) := by decide +kernel
theorem dX0_look_3 : decode cX0_look 3 = .ok (.iload 4, 2) := by decide +kernel
theorem dX0_look_5 : decode cX0_look 5 = .ok (.bipush 8, 2) := by decide +kernel
theorem dX0_look_7 : decode cX0_look 7 = .ok (.if_icmp .ge 42, 3) := by decide +kernel
theorem dX0_look_10 : decode cX0_look 10 = .ok (.aload_n 0, 1) := by decide +kernel
theorem dX0_look_11 : decode cX0_look 11 = .ok (.getfield 11, 3) := by decide +kernel
theorem dX0_look_14 : decode cX0_look 14 = .ok (.iload_n 1, 1) := by decide +kernel
theorem dX0_look_15 : decode cX0_look 15 = .ok (.iload 4, 2) := by decide +kernel
theorem dX0_look_17 : decode cX0_look 17 = .ok (.iadd, 1) := by decide +kernel
theorem dX0_look_18 : decode cX0_look 18 = .ok (.iconst 0, 1) := by decide +kernel
theorem dX0_look_19 : decode cX0_look 19 = .ok (.iastore, 1) := by decide +kernel
theorem dX0_look_20 : decode cX0_look 20 = .ok (.aload_n 0, 1) := by decide +kernel
theorem dX0_look_21 : decode cX0_look 21 = .ok (.getfield 15, 3) := by decide +kernel
theorem dX0_look_24 : decode cX0_look 24 = .ok (.iload_n 1, 1) := by decide +kernel
theorem dX0_look_25 : decode cX0_look 25 = .ok (.iload 4, 2) := by decide +kernel
theorem dX0_look_27 : decode cX0_look 27 = .ok (.iadd, 1) := by decide +kernel
theorem dX0_look_28 : decode cX0_look 28 = .ok (.aload_n 3, 1) := by decide +kernel
theorem dX0_look_29 : decode cX0_look 29 = .ok (.iload 4, 2) := by decide +kernel
theorem dX0_look_31 : decode cX0_look 31 = .ok (.aload_n 2, 1) := by decide +kernel
theorem dX0_look_32 : decode cX0_look 32 = .ok (.getfield 64, 3) := by decide +kernel
theorem dX0_look_35 : decode cX0_look 35 = .ok (.aload_n 2, 1) := by decide +kernel
theorem dX0_look_36 : decode cX0_look 36 = .ok (.getfield 67, 3) := by decide +kernel
theorem dX0_look_39 : decode cX0_look 39 = .ok (.invokevirtual 70, 3) := by decide +kernel
theorem dX0_look_42 : decode cX0_look 42 = .ok (.bastore, 1) := by decide +kernel
theorem dX0_look_43 : decode cX0_look 43 = .ok (.iinc 4 1, 3) := by decide +kernel
theorem dX0_look_46 : decode cX0_look 46 = .ok (.goto (-43), 3) := by decide +kernel
theorem dX0_look_49 : decode cX0_look 49 = .ok (.iconst 0, 1) := by decide +kernel
theorem dX0_look_50 : decode cX0_look 50 = .ok (.istore 4, 2) := by decide +kernel
theorem dX0_look_52 : decode cX0_look 52 = .ok (.iload 4, 2) := by decide +kernel
theorem dX0_look_54 : decode cX0_look 54 = .ok (.aload_n 2, 1) := by decide +kernel
theorem dX0_look_55 : decode cX0_look 55 = .ok (.getfield 74, 3) := by decide +kernel
theorem dX0_look_58 : decode cX0_look 58 = .ok (.if_icmp .ge 43, 3) := by decide +kernel
theorem dX0_look_61 : decode cX0_look 61 = .ok (.aload_n 2, 1) := by decide +kernel
theorem dX0_look_62 : decode cX0_look 62 = .ok (.getfield 77, 3) := by decide +kernel
theorem dX0_look_65 : decode cX0_look 65 = .ok (.iload 4, 2) := by decide +kernel
theorem dX0_look_67 : decode cX0_look 67 = .ok (.iaload, 1) := by decide +kernel
theorem dX0_look_68 : decode cX0_look 68 = .ok (.invokestatic 80, 3) := by decide +kernel
theorem dX0_look_71 : decode cX0_look 71 = .ok (.ifCond .eq 24, 3) := by decide +kernel
theorem dX0_look_74 : decode cX0_look 74 = .ok (.aload_n 0, 1) := by decide +kernel
theorem dX0_look_75 : decode cX0_look 75 = .ok (.getfield 11, 3) := by decide +kernel
theorem dX0_look_78 : decode cX0_look 78 = .ok (.iload_n 1, 1) := by decide +kernel
theorem dX0_look_79 : decode cX0_look 79 = .ok (.aload_n 2, 1) := by decide +kernel
theorem dX0_look_80 : decode cX0_look 80 = .ok (.getfield 77, 3) := by decide +kernel
theorem dX0_look_83 : decode cX0_look 83 = .ok (.iload 4, 2) := by decide +kernel
theorem dX0_look_85 : decode cX0_look 85 = .ok (.iaload, 1) := by decide +kernel
theorem dX0_look_86 : decode cX0_look 86 = .ok (.iadd, 1) := by decide +kernel
theorem dX0_look_87 : decode cX0_look 87 = .ok (.dup2, 1) := by decide +kernel
theorem dX0_look_88 : decode cX0_look 88 = .ok (.iaload, 1) := by decide +kernel
theorem dX0_look_89 : decode cX0_look 89 = .ok (.iconst 1, 1) := by decide +kernel
theorem dX0_look_90 : decode cX0_look 90 = .ok (.iload 4, 2) := by decide +kernel
theorem dX0_look_92 : decode cX0_look 92 = .ok (.ishl, 1) := by decide +kernel
theorem dX0_look_93 : decode cX0_look 93 = .ok (.ior, 1) := by decide +kernel
theorem dX0_look_94 : decode cX0_look 94 = .ok (.iastore, 1) := by decide +kernel
theorem dX0_look_95 : decode cX0_look 95 = .ok (.iinc 4 1, 3) := by decide +kernel
theorem dX0_look_98 : decode cX0_look 98 = .ok (.goto (-46), 3) := by decide +kernel
theorem dX0_look_101 : decode cX0_look 101 = .ok (.return_, 1) := by decide +kernel
set_option maxRecDepth 20000 in
theorem ggX0_bestFrom_X5_isCell : GoodIn wsX0_bestFrom wsX5_isCell := goodIn_r _ [8] (by decide +kernel) (by decide +kernel)
set_option maxRecDepth 20000 in
theorem gX0_bestFrom_X5_isCell_n80 : GoodIn wsX0_bestFrom (wsX5_isCell) := ggX0_bestFrom_X5_isCell
set_option maxRecDepth 20000 in
theorem ggX0_bestFrom_X0_worthOf : GoodIn wsX0_bestFrom wsX0_worthOf := goodIn_r _ [13, 14, 22, 23, 24, 25, 26, 27] (by decide +kernel) (by decide +kernel)
set_option maxRecDepth 20000 in
theorem gX0_bestFrom_X0_worthOf : GoodIn wsX0_bestFrom (wsV RX0 83 RX0 yX0_worthOf wsX0_worthOf) := goodIn_app (goodIn_of _ (by decide +kernel)) ggX0_bestFrom_X0_worthOf
set_option maxRecDepth 20000 in
theorem ggX0_bestFrom_X0_walked : GoodIn wsX0_bestFrom wsX0_walked := goodIn_r _ [17, 4, 3, 5, 2, 18, 19, 20, 21, 6, 7, 8, 9, 10, 11, 12, 13, 14, 15, 16, 22, 23, 24, 25, 26, 27] (by decide +kernel) (by decide +kernel)
set_option maxRecDepth 20000 in
theorem gX0_bestFrom_X0_walked : GoodIn wsX0_bestFrom (va_wsS RX0 87 yX0_walked wsX0_walked) := goodIn_app (goodIn_of _ (by decide +kernel)) ggX0_bestFrom_X0_walked
theorem dX0_bestFrom_0 : decode cX0_bestFrom 0 = .ok (.aload_n 0, 1) := by decide +kernel
theorem dX0_bestFrom_1 : decode cX0_bestFrom 1 = .ok (.iconst (-1), 1) := by decide +kernel
theorem dX0_bestFrom_2 : decode cX0_bestFrom 2 = .ok (.putfield 29, 3) := by decide +kernel
theorem dX0_bestFrom_5 : decode cX0_bestFrom 5 = .ok (.iload_n 1, 1) := by decide +kernel
theorem dX0_bestFrom_6 : decode cX0_bestFrom 6 = .ok (.invokestatic 80, 3) := by decide +kernel
theorem dX0_bestFrom_9 : decode cX0_bestFrom 9 = .ok (.ifCond .eq 21, 3) := by decide +kernel
theorem dX0_bestFrom_12 : decode cX0_bestFrom 12 = .ok (.aload_n 0, 1) := by decide +kernel
theorem dX0_bestFrom_13 : decode cX0_bestFrom 13 = .ok (.getfield 19, 3) := by decide +kernel
theorem dX0_bestFrom_16 : decode cX0_bestFrom 16 = .ok (.iload_n 1, 1) := by decide +kernel
theorem dX0_bestFrom_17 : decode cX0_bestFrom 17 = .ok (.baload, 1) := by decide +kernel
theorem dX0_bestFrom_18 : decode cX0_bestFrom 18 = .ok (.ifCond .eq 12, 3) := by decide +kernel
theorem dX0_bestFrom_21 : decode cX0_bestFrom 21 = .ok (.aload_n 0, 1) := by decide +kernel
theorem dX0_bestFrom_22 : decode cX0_bestFrom 22 = .ok (.getfield 15, 3) := by decide +kernel
theorem dX0_bestFrom_25 : decode cX0_bestFrom 25 = .ok (.iload_n 1, 1) := by decide +kernel
theorem dX0_bestFrom_26 : decode cX0_bestFrom 26 = .ok (.baload, 1) := by decide +kernel
theorem dX0_bestFrom_27 : decode cX0_bestFrom 27 = .ok (.ifCond .ne 5, 3) := by decide +kernel
theorem dX0_bestFrom_30 : decode cX0_bestFrom 30 = .ok (.iconst (-1), 1) := by decide +kernel
theorem dX0_bestFrom_31 : decode cX0_bestFrom 31 = .ok (.ireturn, 1) := by decide +kernel
theorem dX0_bestFrom_32 : decode cX0_bestFrom 32 = .ok (.aload_n 0, 1) := by decide +kernel
theorem dX0_bestFrom_33 : decode cX0_bestFrom 33 = .ok (.getfield 25, 3) := by decide +kernel
theorem dX0_bestFrom_36 : decode cX0_bestFrom 36 = .ok (.ifCond .ne 19, 3) := by decide +kernel
theorem dX0_bestFrom_39 : decode cX0_bestFrom 39 = .ok (.aload_n 0, 1) := by decide +kernel
theorem dX0_bestFrom_40 : decode cX0_bestFrom 40 = .ok (.iload_n 1, 1) := by decide +kernel
theorem dX0_bestFrom_41 : decode cX0_bestFrom 41 = .ok (.putfield 29, 3) := by decide +kernel
theorem dX0_bestFrom_44 : decode cX0_bestFrom 44 = .ok (.aload_n 0, 1) := by decide +kernel
theorem dX0_bestFrom_45 : decode cX0_bestFrom 45 = .ok (.aload_n 0, 1) := by decide +kernel
theorem dX0_bestFrom_46 : decode cX0_bestFrom 46 = .ok (.getfield 11, 3) := by decide +kernel
theorem dX0_bestFrom_49 : decode cX0_bestFrom 49 = .ok (.iload_n 1, 1) := by decide +kernel
theorem dX0_bestFrom_50 : decode cX0_bestFrom 50 = .ok (.iaload, 1) := by decide +kernel
theorem dX0_bestFrom_51 : decode cX0_bestFrom 51 = .ok (.invokevirtual 83, 3) := by decide +kernel
theorem dX0_bestFrom_54 : decode cX0_bestFrom 54 = .ok (.ireturn, 1) := by decide +kernel
theorem dX0_bestFrom_55 : decode cX0_bestFrom 55 = .ok (.iconst (-1), 1) := by decide +kernel
theorem dX0_bestFrom_56 : decode cX0_bestFrom 56 = .ok (.istore_n 2, 1) := by decide +kernel
theorem dX0_bestFrom_57 : decode cX0_bestFrom 57 = .ok (.iload_n 1, 1) := by decide +kernel
theorem dX0_bestFrom_58 : decode cX0_bestFrom 58 = .ok (.iconst 1, 1) := by decide +kernel
theorem dX0_bestFrom_59 : decode cX0_bestFrom 59 = .ok (.isub, 1) := by decide +kernel
theorem dX0_bestFrom_60 : decode cX0_bestFrom 60 = .ok (.istore_n 3, 1) := by decide +kernel
theorem dX0_bestFrom_61 : decode cX0_bestFrom 61 = .ok (.iload_n 3, 1) := by decide +kernel
theorem dX0_bestFrom_62 : decode cX0_bestFrom 62 = .ok (.iload_n 1, 1) := by decide +kernel
theorem dX0_bestFrom_63 : decode cX0_bestFrom 63 = .ok (.iconst 1, 1) := by decide +kernel
theorem dX0_bestFrom_64 : decode cX0_bestFrom 64 = .ok (.iadd, 1) := by decide +kernel
theorem dX0_bestFrom_65 : decode cX0_bestFrom 65 = .ok (.if_icmp .gt 37, 3) := by decide +kernel
theorem dX0_bestFrom_68 : decode cX0_bestFrom 68 = .ok (.aload_n 0, 1) := by decide +kernel
theorem dX0_bestFrom_69 : decode cX0_bestFrom 69 = .ok (.iconst 1, 1) := by decide +kernel
theorem dX0_bestFrom_70 : decode cX0_bestFrom 70 = .ok (.iload_n 3, 1) := by decide +kernel
theorem dX0_bestFrom_71 : decode cX0_bestFrom 71 = .ok (.aload_n 0, 1) := by decide +kernel
theorem dX0_bestFrom_72 : decode cX0_bestFrom 72 = .ok (.getfield 11, 3) := by decide +kernel
theorem dX0_bestFrom_75 : decode cX0_bestFrom 75 = .ok (.iload_n 1, 1) := by decide +kernel
theorem dX0_bestFrom_76 : decode cX0_bestFrom 76 = .ok (.iaload, 1) := by decide +kernel
theorem dX0_bestFrom_77 : decode cX0_bestFrom 77 = .ok (.invokestatic 87, 3) := by decide +kernel
theorem dX0_bestFrom_80 : decode cX0_bestFrom 80 = .ok (.istore 4, 2) := by decide +kernel
theorem dX0_bestFrom_82 : decode cX0_bestFrom 82 = .ok (.iload 4, 2) := by decide +kernel
theorem dX0_bestFrom_84 : decode cX0_bestFrom 84 = .ok (.iload_n 2, 1) := by decide +kernel
theorem dX0_bestFrom_85 : decode cX0_bestFrom 85 = .ok (.if_icmp .le 11, 3) := by decide +kernel
theorem dX0_bestFrom_88 : decode cX0_bestFrom 88 = .ok (.iload 4, 2) := by decide +kernel
theorem dX0_bestFrom_90 : decode cX0_bestFrom 90 = .ok (.istore_n 2, 1) := by decide +kernel
theorem dX0_bestFrom_91 : decode cX0_bestFrom 91 = .ok (.aload_n 0, 1) := by decide +kernel
theorem dX0_bestFrom_92 : decode cX0_bestFrom 92 = .ok (.iload_n 3, 1) := by decide +kernel
theorem dX0_bestFrom_93 : decode cX0_bestFrom 93 = .ok (.putfield 29, 3) := by decide +kernel
theorem dX0_bestFrom_96 : decode cX0_bestFrom 96 = .ok (.iinc 3 1, 3) := by decide +kernel
theorem dX0_bestFrom_99 : decode cX0_bestFrom 99 = .ok (.goto (-38), 3) := by decide +kernel
theorem dX0_bestFrom_102 : decode cX0_bestFrom 102 = .ok (.iload_n 2, 1) := by decide +kernel
theorem dX0_bestFrom_103 : decode cX0_bestFrom 103 = .ok (.ireturn, 1) := by decide +kernel
set_option maxRecDepth 20000 in
theorem ggX0_walked_X5_isCell : GoodIn wsX0_walked wsX5_isCell := goodIn_r _ [11] (by decide +kernel) (by decide +kernel)
set_option maxRecDepth 20000 in
theorem gX0_walked_X5_isCell_n80 : GoodIn wsX0_walked (wsX5_isCell) := ggX0_walked_X5_isCell
set_option maxRecDepth 20000 in
theorem ggX0_walked_X0_worthOf : GoodIn wsX0_walked wsX0_worthOf := goodIn_r _ [16, 17, 20, 21, 22, 23, 24, 25] (by decide +kernel) (by decide +kernel)
set_option maxRecDepth 20000 in
theorem gX0_walked_X0_worthOf : GoodIn wsX0_walked (wsV RX0 83 RX0 yX0_worthOf wsX0_worthOf) := goodIn_app (goodIn_of _ (by decide +kernel)) ggX0_walked_X0_worthOf
set_option maxRecDepth 20000 in
theorem ggX0_walked_X0_walked : GoodIn wsX0_walked wsX0_walked := goodIn_r _ [0, 1, 2, 3, 4, 5, 6, 7, 8, 9, 10, 11, 12, 13, 14, 15, 16, 17, 18, 19, 20, 21, 22, 23, 24, 25] (by decide +kernel) (by decide +kernel)
set_option maxRecDepth 20000 in
theorem gX0_walked_X0_walked : GoodIn wsX0_walked (va_wsS RX0 87 yX0_walked wsX0_walked) := goodIn_app (goodIn_of _ (by decide +kernel)) ggX0_walked_X0_walked
theorem dX0_walked_0 : decode cX0_walked 0 = .ok (.iload_n 1, 1) := by decide +kernel
theorem dX0_walked_1 : decode cX0_walked 1 = .ok (.ifCond .lt 32, 3) := by decide +kernel
theorem dX0_walked_4 : decode cX0_walked 4 = .ok (.iload_n 1, 1) := by decide +kernel
theorem dX0_walked_5 : decode cX0_walked 5 = .ok (.aload_n 0, 1) := by decide +kernel
theorem dX0_walked_6 : decode cX0_walked 6 = .ok (.getfield 25, 3) := by decide +kernel
theorem dX0_walked_9 : decode cX0_walked 9 = .ok (.if_icmp .gt 24, 3) := by decide +kernel
theorem dX0_walked_12 : decode cX0_walked 12 = .ok (.iload_n 2, 1) := by decide +kernel
theorem dX0_walked_13 : decode cX0_walked 13 = .ok (.invokestatic 80, 3) := by decide +kernel
theorem dX0_walked_16 : decode cX0_walked 16 = .ok (.ifCond .eq 17, 3) := by decide +kernel
theorem dX0_walked_19 : decode cX0_walked 19 = .ok (.aload_n 0, 1) := by decide +kernel
theorem dX0_walked_20 : decode cX0_walked 20 = .ok (.getfield 15, 3) := by decide +kernel
theorem dX0_walked_23 : decode cX0_walked 23 = .ok (.iload_n 1, 1) := by decide +kernel
theorem dX0_walked_24 : decode cX0_walked 24 = .ok (.bipush 8, 2) := by decide +kernel
theorem dX0_walked_26 : decode cX0_walked 26 = .ok (.imul, 1) := by decide +kernel
theorem dX0_walked_27 : decode cX0_walked 27 = .ok (.iload_n 2, 1) := by decide +kernel
theorem dX0_walked_28 : decode cX0_walked 28 = .ok (.iadd, 1) := by decide +kernel
theorem dX0_walked_29 : decode cX0_walked 29 = .ok (.baload, 1) := by decide +kernel
theorem dX0_walked_30 : decode cX0_walked 30 = .ok (.ifCond .ne 5, 3) := by decide +kernel
theorem dX0_walked_33 : decode cX0_walked 33 = .ok (.iconst (-1), 1) := by decide +kernel
theorem dX0_walked_34 : decode cX0_walked 34 = .ok (.ireturn, 1) := by decide +kernel
theorem dX0_walked_35 : decode cX0_walked 35 = .ok (.iload_n 3, 1) := by decide +kernel
theorem dX0_walked_36 : decode cX0_walked 36 = .ok (.aload_n 0, 1) := by decide +kernel
theorem dX0_walked_37 : decode cX0_walked 37 = .ok (.getfield 11, 3) := by decide +kernel
theorem dX0_walked_40 : decode cX0_walked 40 = .ok (.iload_n 1, 1) := by decide +kernel
theorem dX0_walked_41 : decode cX0_walked 41 = .ok (.bipush 8, 2) := by decide +kernel
theorem dX0_walked_43 : decode cX0_walked 43 = .ok (.imul, 1) := by decide +kernel
theorem dX0_walked_44 : decode cX0_walked 44 = .ok (.iload_n 2, 1) := by decide +kernel
theorem dX0_walked_45 : decode cX0_walked 45 = .ok (.iadd, 1) := by decide +kernel
theorem dX0_walked_46 : decode cX0_walked 46 = .ok (.iaload, 1) := by decide +kernel
theorem dX0_walked_47 : decode cX0_walked 47 = .ok (.ior, 1) := by decide +kernel
theorem dX0_walked_48 : decode cX0_walked 48 = .ok (.istore 4, 2) := by decide +kernel
theorem dX0_walked_50 : decode cX0_walked 50 = .ok (.iload_n 1, 1) := by decide +kernel
theorem dX0_walked_51 : decode cX0_walked 51 = .ok (.aload_n 0, 1) := by decide +kernel
theorem dX0_walked_52 : decode cX0_walked 52 = .ok (.getfield 25, 3) := by decide +kernel
theorem dX0_walked_55 : decode cX0_walked 55 = .ok (.if_icmp .ne 23, 3) := by decide +kernel
theorem dX0_walked_58 : decode cX0_walked 58 = .ok (.aload_n 0, 1) := by decide +kernel
theorem dX0_walked_59 : decode cX0_walked 59 = .ok (.getfield 19, 3) := by decide +kernel
theorem dX0_walked_62 : decode cX0_walked 62 = .ok (.iload_n 2, 1) := by decide +kernel
theorem dX0_walked_63 : decode cX0_walked 63 = .ok (.baload, 1) := by decide +kernel
theorem dX0_walked_64 : decode cX0_walked 64 = .ok (.ifCond .eq 12, 3) := by decide +kernel
theorem dX0_walked_67 : decode cX0_walked 67 = .ok (.aload_n 0, 1) := by decide +kernel
theorem dX0_walked_68 : decode cX0_walked 68 = .ok (.iload 4, 2) := by decide +kernel
theorem dX0_walked_70 : decode cX0_walked 70 = .ok (.invokevirtual 83, 3) := by decide +kernel
theorem dX0_walked_73 : decode cX0_walked 73 = .ok (.goto 4, 3) := by decide +kernel
theorem dX0_walked_76 : decode cX0_walked 76 = .ok (.iconst (-1), 1) := by decide +kernel
theorem dX0_walked_77 : decode cX0_walked 77 = .ok (.ireturn, 1) := by decide +kernel
theorem dX0_walked_78 : decode cX0_walked 78 = .ok (.iconst (-1), 1) := by decide +kernel
theorem dX0_walked_79 : decode cX0_walked 79 = .ok (.istore 5, 2) := by decide +kernel
theorem dX0_walked_81 : decode cX0_walked 81 = .ok (.iload_n 2, 1) := by decide +kernel
theorem dX0_walked_82 : decode cX0_walked 82 = .ok (.iconst 1, 1) := by decide +kernel
theorem dX0_walked_83 : decode cX0_walked 83 = .ok (.isub, 1) := by decide +kernel
theorem dX0_walked_84 : decode cX0_walked 84 = .ok (.istore 6, 2) := by decide +kernel
theorem dX0_walked_86 : decode cX0_walked 86 = .ok (.iload 6, 2) := by decide +kernel
theorem dX0_walked_88 : decode cX0_walked 88 = .ok (.iload_n 2, 1) := by decide +kernel
theorem dX0_walked_89 : decode cX0_walked 89 = .ok (.iconst 1, 1) := by decide +kernel
theorem dX0_walked_90 : decode cX0_walked 90 = .ok (.iadd, 1) := by decide +kernel
theorem dX0_walked_91 : decode cX0_walked 91 = .ok (.if_icmp .gt 27, 3) := by decide +kernel
theorem dX0_walked_94 : decode cX0_walked 94 = .ok (.iload 5, 2) := by decide +kernel
theorem dX0_walked_96 : decode cX0_walked 96 = .ok (.aload_n 0, 1) := by decide +kernel
theorem dX0_walked_97 : decode cX0_walked 97 = .ok (.iload_n 1, 1) := by decide +kernel
theorem dX0_walked_98 : decode cX0_walked 98 = .ok (.iconst 1, 1) := by decide +kernel
theorem dX0_walked_99 : decode cX0_walked 99 = .ok (.iadd, 1) := by decide +kernel
theorem dX0_walked_100 : decode cX0_walked 100 = .ok (.iload 6, 2) := by decide +kernel
theorem dX0_walked_102 : decode cX0_walked 102 = .ok (.iload 4, 2) := by decide +kernel
theorem dX0_walked_104 : decode cX0_walked 104 = .ok (.invokestatic 87, 3) := by decide +kernel
theorem dX0_walked_107 : decode cX0_walked 107 = .ok (.invokestatic 38, 3) := by decide +kernel
theorem dX0_walked_110 : decode cX0_walked 110 = .ok (.istore 5, 2) := by decide +kernel
theorem dX0_walked_112 : decode cX0_walked 112 = .ok (.iinc 6 1, 3) := by decide +kernel
theorem dX0_walked_115 : decode cX0_walked 115 = .ok (.goto (-29), 3) := by decide +kernel
theorem dX0_walked_118 : decode cX0_walked 118 = .ok (.iload 5, 2) := by decide +kernel
theorem dX0_walked_120 : decode cX0_walked 120 = .ok (.ireturn, 1) := by decide +kernel
theorem dX0_worthOf_0 : decode cX0_worthOf 0 = .ok (.iconst 0, 1) := by decide +kernel
theorem dX0_worthOf_1 : decode cX0_worthOf 1 = .ok (.istore_n 2, 1) := by decide +kernel
theorem dX0_worthOf_2 : decode cX0_worthOf 2 = .ok (.iconst 0, 1) := by decide +kernel
theorem dX0_worthOf_3 : decode cX0_worthOf 3 = .ok (.istore_n 3, 1) := by decide +kernel
theorem dX0_worthOf_4 : decode cX0_worthOf 4 = .ok (.iload_n 3, 1) := by decide +kernel
theorem dX0_worthOf_5 : decode cX0_worthOf 5 = .ok (.bipush 8, 2) := by decide +kernel
theorem dX0_worthOf_7 : decode cX0_worthOf 7 = .ok (.if_icmp .ge 27, 3) := by decide +kernel
theorem dX0_worthOf_10 : decode cX0_worthOf 10 = .ok (.iload_n 1, 1) := by decide +kernel
theorem dX0_worthOf_11 : decode cX0_worthOf 11 = .ok (.iload_n 3, 1) := by decide +kernel
theorem dX0_worthOf_12 : decode cX0_worthOf 12 = .ok (.ishr, 1) := by decide +kernel
theorem dX0_worthOf_13 : decode cX0_worthOf 13 = .ok (.iconst 1, 1) := by decide +kernel
theorem dX0_worthOf_14 : decode cX0_worthOf 14 = .ok (.iand, 1) := by decide +kernel
theorem dX0_worthOf_15 : decode cX0_worthOf 15 = .ok (.iconst 1, 1) := by decide +kernel
theorem dX0_worthOf_16 : decode cX0_worthOf 16 = .ok (.if_icmp .ne 12, 3) := by decide +kernel
theorem dX0_worthOf_19 : decode cX0_worthOf 19 = .ok (.iload_n 2, 1) := by decide +kernel
theorem dX0_worthOf_20 : decode cX0_worthOf 20 = .ok (.aload_n 0, 1) := by decide +kernel
theorem dX0_worthOf_21 : decode cX0_worthOf 21 = .ok (.getfield 22, 3) := by decide +kernel
theorem dX0_worthOf_24 : decode cX0_worthOf 24 = .ok (.iload_n 3, 1) := by decide +kernel
theorem dX0_worthOf_25 : decode cX0_worthOf 25 = .ok (.iaload, 1) := by decide +kernel
theorem dX0_worthOf_26 : decode cX0_worthOf 26 = .ok (.iadd, 1) := by decide +kernel
theorem dX0_worthOf_27 : decode cX0_worthOf 27 = .ok (.istore_n 2, 1) := by decide +kernel
theorem dX0_worthOf_28 : decode cX0_worthOf 28 = .ok (.iinc 3 1, 3) := by decide +kernel
theorem dX0_worthOf_31 : decode cX0_worthOf 31 = .ok (.goto (-27), 3) := by decide +kernel
theorem dX0_worthOf_34 : decode cX0_worthOf 34 = .ok (.iload_n 2, 1) := by decide +kernel
theorem dX0_worthOf_35 : decode cX0_worthOf 35 = .ok (.ireturn, 1) := by decide +kernel
theorem dX1_init_0 : decode cX1_init 0 = .ok (.aload_n 0, 1) := by decide +kernel
theorem dX1_init_1 : decode cX1_init 1 = .ok (.invokespecial 1, 3) := by decide +kernel
theorem dX1_init_4 : decode cX1_init 4 = .ok (.aload_n 0, 1) := by decide +kernel
theorem dX1_init_5 : decode cX1_init 5 = .ok (.lconst 0, 1) := by decide +kernel
theorem dX1_init_6 : decode cX1_init 6 = .ok (.putfield 7, 3) := by decide +kernel
theorem dX1_init_9 : decode cX1_init 9 = .ok (.return_, 1) := by decide +kernel
theorem dX1_next_0 : decode cX1_next 0 = .ok (.aload_n 0, 1) := by decide +kernel
theorem dX1_next_1 : decode cX1_next 1 = .ok (.ldc2_w 13, 3) := by decide +kernel
theorem dX1_next_4 : decode cX1_next 4 = .ok (.aload_n 0, 1) := by decide +kernel
theorem dX1_next_5 : decode cX1_next 5 = .ok (.getfield 7, 3) := by decide +kernel
theorem dX1_next_8 : decode cX1_next 8 = .ok (.lmul, 1) := by decide +kernel
theorem dX1_next_9 : decode cX1_next 9 = .ok (.ldc2_w 15, 3) := by decide +kernel
theorem dX1_next_12 : decode cX1_next 12 = .ok (.ladd, 1) := by decide +kernel
theorem dX1_next_13 : decode cX1_next 13 = .ok (.ldc2_w 17, 3) := by decide +kernel
theorem dX1_next_16 : decode cX1_next 16 = .ok (.lrem, 1) := by decide +kernel
theorem dX1_next_17 : decode cX1_next 17 = .ok (.putfield 7, 3) := by decide +kernel
theorem dX1_next_20 : decode cX1_next 20 = .ok (.iload_n 1, 1) := by decide +kernel
theorem dX1_next_21 : decode cX1_next 21 = .ok (.ifCond .le 18, 3) := by decide +kernel
theorem dX1_next_24 : decode cX1_next 24 = .ok (.aload_n 0, 1) := by decide +kernel
theorem dX1_next_25 : decode cX1_next 25 = .ok (.getfield 7, 3) := by decide +kernel
theorem dX1_next_28 : decode cX1_next 28 = .ok (.ldc2_w 19, 3) := by decide +kernel
theorem dX1_next_31 : decode cX1_next 31 = .ok (.ldiv, 1) := by decide +kernel
theorem dX1_next_32 : decode cX1_next 32 = .ok (.iload_n 1, 1) := by decide +kernel
theorem dX1_next_33 : decode cX1_next 33 = .ok (.i2l, 1) := by decide +kernel
theorem dX1_next_34 : decode cX1_next 34 = .ok (.lrem, 1) := by decide +kernel
theorem dX1_next_35 : decode cX1_next 35 = .ok (.l2i, 1) := by decide +kernel
theorem dX1_next_36 : decode cX1_next 36 = .ok (.goto 4, 3) := by decide +kernel
theorem dX1_next_39 : decode cX1_next 39 = .ok (.iconst 0, 1) := by decide +kernel
theorem dX1_next_40 : decode cX1_next 40 = .ok (.ireturn, 1) := by decide +kernel
theorem dX2_init_0 : decode cX2_init 0 = .ok (.aload_n 0, 1) := by decide +kernel
theorem dX2_init_1 : decode cX2_init 1 = .ok (.invokespecial 3, 3) := by decide +kernel
theorem dX2_init_4 : decode cX2_init 4 = .ok (.aload_n 0, 1) := by decide +kernel
theorem dX2_init_5 : decode cX2_init 5 = .ok (.bipush 32, 2) := by decide +kernel
theorem dX2_init_7 : decode cX2_init 7 = .ok (.newarray .char, 2) := by decide +kernel
theorem dX2_init_9 : decode cX2_init 9 = .ok (.putfield 9, 3) := by decide +kernel
theorem dX2_init_12 : decode cX2_init 12 = .ok (.aload_n 0, 1) := by decide +kernel
theorem dX2_init_13 : decode cX2_init 13 = .ok (.iconst 0, 1) := by decide +kernel
theorem dX2_init_14 : decode cX2_init 14 = .ok (.putfield 15, 3) := by decide +kernel
theorem dX2_init_17 : decode cX2_init 17 = .ok (.return_, 1) := by decide +kernel
set_option maxRecDepth 20000 in
theorem ggX2_lettersIn_X2_letterOf : GoodIn wsX2_lettersIn wsX2_letterOf := goodIn_r _ [4, 5] (by decide +kernel) (by decide +kernel)
set_option maxRecDepth 20000 in
theorem gX2_lettersIn_X2_letterOf : GoodIn wsX2_lettersIn (va_wsS RX2 19 yX2_letterOf wsX2_letterOf) := goodIn_app (goodIn_of _ (by decide +kernel)) ggX2_lettersIn_X2_letterOf
theorem dX2_lettersIn_0 : decode cX2_lettersIn 0 = .ok (.iconst 0, 1) := by decide +kernel
theorem dX2_lettersIn_1 : decode cX2_lettersIn 1 = .ok (.istore_n 2, 1) := by decide +kernel
theorem dX2_lettersIn_2 : decode cX2_lettersIn 2 = .ok (.iconst 0, 1) := by decide +kernel
theorem dX2_lettersIn_3 : decode cX2_lettersIn 3 = .ok (.istore_n 3, 1) := by decide +kernel
theorem dX2_lettersIn_4 : decode cX2_lettersIn 4 = .ok (.iconst 0, 1) := by decide +kernel
theorem dX2_lettersIn_5 : decode cX2_lettersIn 5 = .ok (.istore 4, 2) := by decide +kernel
theorem dX2_lettersIn_7 : decode cX2_lettersIn 7 = .ok (.iload 4, 2) := by decide +kernel
theorem dX2_lettersIn_9 : decode cX2_lettersIn 9 = .ok (.bipush 8, 2) := by decide +kernel
theorem dX2_lettersIn_11 : decode cX2_lettersIn 11 = .ok (.if_icmp .ge 48, 3) := by decide +kernel
theorem dX2_lettersIn_14 : decode cX2_lettersIn 14 = .ok (.lload_n 0, 1) := by decide +kernel
theorem dX2_lettersIn_15 : decode cX2_lettersIn 15 = .ok (.iload 4, 2) := by decide +kernel
theorem dX2_lettersIn_17 : decode cX2_lettersIn 17 = .ok (.invokestatic 19, 3) := by decide +kernel
theorem dX2_lettersIn_20 : decode cX2_lettersIn 20 = .ok (.istore 5, 2) := by decide +kernel
theorem dX2_lettersIn_22 : decode cX2_lettersIn 22 = .ok (.iload 5, 2) := by decide +kernel
theorem dX2_lettersIn_24 : decode cX2_lettersIn 24 = .ok (.bipush 126, 2) := by decide +kernel
theorem dX2_lettersIn_26 : decode cX2_lettersIn 26 = .ok (.if_icmp .gt 12, 3) := by decide +kernel
theorem dX2_lettersIn_29 : decode cX2_lettersIn 29 = .ok (.iload_n 3, 1) := by decide +kernel
theorem dX2_lettersIn_30 : decode cX2_lettersIn 30 = .ok (.ifCond .eq 10, 3) := by decide +kernel
theorem dX2_lettersIn_33 : decode cX2_lettersIn 33 = .ok (.iload 5, 2) := by decide +kernel
theorem dX2_lettersIn_35 : decode cX2_lettersIn 35 = .ok (.ifCond .eq 5, 3) := by decide +kernel
theorem dX2_lettersIn_38 : decode cX2_lettersIn 38 = .ok (.iconst (-1), 1) := by decide +kernel
theorem dX2_lettersIn_39 : decode cX2_lettersIn 39 = .ok (.ireturn, 1) := by decide +kernel
theorem dX2_lettersIn_40 : decode cX2_lettersIn 40 = .ok (.iload 5, 2) := by decide +kernel
theorem dX2_lettersIn_42 : decode cX2_lettersIn 42 = .ok (.ifCond .ne 8, 3) := by decide +kernel
theorem dX2_lettersIn_45 : decode cX2_lettersIn 45 = .ok (.iconst 1, 1) := by decide +kernel
theorem dX2_lettersIn_46 : decode cX2_lettersIn 46 = .ok (.istore_n 3, 1) := by decide +kernel
theorem dX2_lettersIn_47 : decode cX2_lettersIn 47 = .ok (.goto 6, 3) := by decide +kernel
theorem dX2_lettersIn_50 : decode cX2_lettersIn 50 = .ok (.iinc 2 1, 3) := by decide +kernel
theorem dX2_lettersIn_53 : decode cX2_lettersIn 53 = .ok (.iinc 4 1, 3) := by decide +kernel
theorem dX2_lettersIn_56 : decode cX2_lettersIn 56 = .ok (.goto (-49), 3) := by decide +kernel
theorem dX2_lettersIn_59 : decode cX2_lettersIn 59 = .ok (.iload_n 2, 1) := by decide +kernel
theorem dX2_lettersIn_60 : decode cX2_lettersIn 60 = .ok (.ireturn, 1) := by decide +kernel
set_option maxRecDepth 20000 in
theorem ggX2_append_X2_letterOf : GoodIn wsX2_append wsX2_letterOf := goodIn_r _ [6, 7] (by decide +kernel) (by decide +kernel)
set_option maxRecDepth 20000 in
theorem gX2_append_X2_letterOf : GoodIn wsX2_append (va_wsS RX2 19 yX2_letterOf wsX2_letterOf) := goodIn_app (goodIn_of _ (by decide +kernel)) ggX2_append_X2_letterOf
theorem dX2_append_0 : decode cX2_append 0 = .ok (.iconst 0, 1) := by decide +kernel
theorem dX2_append_1 : decode cX2_append 1 = .ok (.istore 4, 2) := by decide +kernel
theorem dX2_append_3 : decode cX2_append 3 = .ok (.iload 4, 2) := by decide +kernel
theorem dX2_append_5 : decode cX2_append 5 = .ok (.iload_n 3, 1) := by decide +kernel
theorem dX2_append_6 : decode cX2_append 6 = .ok (.if_icmp .ge 44, 3) := by decide +kernel
theorem dX2_append_9 : decode cX2_append 9 = .ok (.aload_n 0, 1) := by decide +kernel
theorem dX2_append_10 : decode cX2_append 10 = .ok (.getfield 15, 3) := by decide +kernel
theorem dX2_append_13 : decode cX2_append 13 = .ok (.bipush 32, 2) := by decide +kernel
theorem dX2_append_15 : decode cX2_append 15 = .ok (.if_icmp .ge 35, 3) := by decide +kernel
theorem dX2_append_18 : decode cX2_append 18 = .ok (.aload_n 0, 1) := by decide +kernel
theorem dX2_append_19 : decode cX2_append 19 = .ok (.getfield 9, 3) := by decide +kernel
theorem dX2_append_22 : decode cX2_append 22 = .ok (.aload_n 0, 1) := by decide +kernel
theorem dX2_append_23 : decode cX2_append 23 = .ok (.getfield 15, 3) := by decide +kernel
theorem dX2_append_26 : decode cX2_append 26 = .ok (.lload_n 1, 1) := by decide +kernel
theorem dX2_append_27 : decode cX2_append 27 = .ok (.iload 4, 2) := by decide +kernel
theorem dX2_append_29 : decode cX2_append 29 = .ok (.invokestatic 19, 3) := by decide +kernel
theorem dX2_append_32 : decode cX2_append 32 = .ok (.i2c, 1) := by decide +kernel
theorem dX2_append_33 : decode cX2_append 33 = .ok (.castore, 1) := by decide +kernel
theorem dX2_append_34 : decode cX2_append 34 = .ok (.aload_n 0, 1) := by decide +kernel
theorem dX2_append_35 : decode cX2_append 35 = .ok (.dup, 1) := by decide +kernel
theorem dX2_append_36 : decode cX2_append 36 = .ok (.getfield 15, 3) := by decide +kernel
theorem dX2_append_39 : decode cX2_append 39 = .ok (.iconst 1, 1) := by decide +kernel
theorem dX2_append_40 : decode cX2_append 40 = .ok (.iadd, 1) := by decide +kernel
theorem dX2_append_41 : decode cX2_append 41 = .ok (.putfield 15, 3) := by decide +kernel
theorem dX2_append_44 : decode cX2_append 44 = .ok (.iinc 4 1, 3) := by decide +kernel
theorem dX2_append_47 : decode cX2_append 47 = .ok (.goto (-44), 3) := by decide +kernel
theorem dX2_append_50 : decode cX2_append 50 = .ok (.return_, 1) := by decide +kernel
set_option maxRecDepth 20000 in
theorem ggX2_faultPlace_X2_isDigit : GoodIn wsX2_faultPlace wsX2_isDigit := goodIn_r _ [6] (by decide +kernel) (by decide +kernel)
set_option maxRecDepth 20000 in
theorem gX2_faultPlace_X2_isDigit : GoodIn wsX2_faultPlace (va_wsS RX2 23 yX2_isDigit wsX2_isDigit) := goodIn_app (goodIn_of _ (by decide +kernel)) ggX2_faultPlace_X2_isDigit
set_option maxRecDepth 20000 in
theorem ggX2_faultPlace_X2_isNewStair : GoodIn wsX2_faultPlace wsX2_isNewStair := goodIn_r _ [9, 10, 11, 5, 12, 13, 14, 15] (by decide +kernel) (by decide +kernel)
set_option maxRecDepth 20000 in
theorem gX2_faultPlace_X2_isNewStair : GoodIn wsX2_faultPlace (va_wsS RX2 27 yX2_isNewStair wsX2_isNewStair) := goodIn_app (goodIn_of _ (by decide +kernel)) ggX2_faultPlace_X2_isNewStair
set_option maxRecDepth 20000 in
theorem ggX2_faultPlace_X2_stairBit : GoodIn wsX2_faultPlace wsX2_stairBit := goodIn_r _ [12, 13, 14, 15] (by decide +kernel) (by decide +kernel)
set_option maxRecDepth 20000 in
theorem gX2_faultPlace_X2_stairBit : GoodIn wsX2_faultPlace (va_wsS RX2 31 yX2_stairBit wsX2_stairBit) := goodIn_app (goodIn_of _ (by decide +kernel)) ggX2_faultPlace_X2_stairBit
theorem dX2_faultPlace_0 : decode cX2_faultPlace 0 = .ok (.iconst 0, 1) := by decide +kernel
theorem dX2_faultPlace_1 : decode cX2_faultPlace 1 = .ok (.istore_n 1, 1) := by decide +kernel
theorem dX2_faultPlace_2 : decode cX2_faultPlace 2 = .ok (.iconst (-1), 1) := by decide +kernel
theorem dX2_faultPlace_3 : decode cX2_faultPlace 3 = .ok (.istore_n 2, 1) := by decide +kernel
theorem dX2_faultPlace_4 : decode cX2_faultPlace 4 = .ok (.iconst 0, 1) := by decide +kernel
theorem dX2_faultPlace_5 : decode cX2_faultPlace 5 = .ok (.istore_n 3, 1) := by decide +kernel
theorem dX2_faultPlace_6 : decode cX2_faultPlace 6 = .ok (.iload_n 3, 1) := by decide +kernel
theorem dX2_faultPlace_7 : decode cX2_faultPlace 7 = .ok (.aload_n 0, 1) := by decide +kernel
theorem dX2_faultPlace_8 : decode cX2_faultPlace 8 = .ok (.getfield 15, 3) := by decide +kernel
theorem dX2_faultPlace_11 : decode cX2_faultPlace 11 = .ok (.if_icmp .ge 133, 3) := by decide +kernel
theorem dX2_faultPlace_14 : decode cX2_faultPlace 14 = .ok (.aload_n 0, 1) := by decide +kernel
theorem dX2_faultPlace_15 : decode cX2_faultPlace 15 = .ok (.getfield 9, 3) := by decide +kernel
theorem dX2_faultPlace_18 : decode cX2_faultPlace 18 = .ok (.iload_n 3, 1) := by decide +kernel
theorem dX2_faultPlace_19 : decode cX2_faultPlace 19 = .ok (.caload, 1) := by decide +kernel
theorem dX2_faultPlace_20 : decode cX2_faultPlace 20 = .ok (.istore 4, 2) := by decide +kernel
theorem dX2_faultPlace_22 : decode cX2_faultPlace 22 = .ok (.iload_n 3, 1) := by decide +kernel
theorem dX2_faultPlace_23 : decode cX2_faultPlace 23 = .ok (.bipush 8, 2) := by decide +kernel
theorem dX2_faultPlace_25 : decode cX2_faultPlace 25 = .ok (.if_icmp .ge 13, 3) := by decide +kernel
theorem dX2_faultPlace_28 : decode cX2_faultPlace 28 = .ok (.iload 4, 2) := by decide +kernel
theorem dX2_faultPlace_30 : decode cX2_faultPlace 30 = .ok (.invokestatic 23, 3) := by decide +kernel
theorem dX2_faultPlace_33 : decode cX2_faultPlace 33 = .ok (.istore 5, 2) := by decide +kernel
theorem dX2_faultPlace_35 : decode cX2_faultPlace 35 = .ok (.goto 96, 3) := by decide +kernel
theorem dX2_faultPlace_38 : decode cX2_faultPlace 38 = .ok (.iload_n 3, 1) := by decide +kernel
theorem dX2_faultPlace_39 : decode cX2_faultPlace 39 = .ok (.bipush 8, 2) := by decide +kernel
theorem dX2_faultPlace_41 : decode cX2_faultPlace 41 = .ok (.if_icmp .ne 20, 3) := by decide +kernel
theorem dX2_faultPlace_44 : decode cX2_faultPlace 44 = .ok (.iload 4, 2) := by decide +kernel
theorem dX2_faultPlace_46 : decode cX2_faultPlace 46 = .ok (.bipush 59, 2) := by decide +kernel
theorem dX2_faultPlace_48 : decode cX2_faultPlace 48 = .ok (.if_icmp .ne 7, 3) := by decide +kernel
theorem dX2_faultPlace_51 : decode cX2_faultPlace 51 = .ok (.iconst 1, 1) := by decide +kernel
theorem dX2_faultPlace_52 : decode cX2_faultPlace 52 = .ok (.goto 4, 3) := by decide +kernel
theorem dX2_faultPlace_55 : decode cX2_faultPlace 55 = .ok (.iconst 0, 1) := by decide +kernel
theorem dX2_faultPlace_56 : decode cX2_faultPlace 56 = .ok (.istore 5, 2) := by decide +kernel
theorem dX2_faultPlace_58 : decode cX2_faultPlace 58 = .ok (.goto 73, 3) := by decide +kernel
theorem dX2_faultPlace_61 : decode cX2_faultPlace 61 = .ok (.iload_n 2, 1) := by decide +kernel
theorem dX2_faultPlace_62 : decode cX2_faultPlace 62 = .ok (.iconst (-1), 1) := by decide +kernel
theorem dX2_faultPlace_63 : decode cX2_faultPlace 63 = .ok (.if_icmp .eq 29, 3) := by decide +kernel
theorem dX2_faultPlace_66 : decode cX2_faultPlace 66 = .ok (.iload 4, 2) := by decide +kernel
theorem dX2_faultPlace_68 : decode cX2_faultPlace 68 = .ok (.invokestatic 23, 3) := by decide +kernel
theorem dX2_faultPlace_71 : decode cX2_faultPlace 71 = .ok (.ifCond .eq 15, 3) := by decide +kernel
theorem dX2_faultPlace_74 : decode cX2_faultPlace 74 = .ok (.iload_n 3, 1) := by decide +kernel
theorem dX2_faultPlace_75 : decode cX2_faultPlace 75 = .ok (.iload_n 2, 1) := by decide +kernel
theorem dX2_faultPlace_76 : decode cX2_faultPlace 76 = .ok (.isub, 1) := by decide +kernel
theorem dX2_faultPlace_77 : decode cX2_faultPlace 77 = .ok (.bipush 12, 2) := by decide +kernel
theorem dX2_faultPlace_79 : decode cX2_faultPlace 79 = .ok (.if_icmp .gt 7, 3) := by decide +kernel
theorem dX2_faultPlace_82 : decode cX2_faultPlace 82 = .ok (.iconst 1, 1) := by decide +kernel
theorem dX2_faultPlace_83 : decode cX2_faultPlace 83 = .ok (.goto 4, 3) := by decide +kernel
theorem dX2_faultPlace_86 : decode cX2_faultPlace 86 = .ok (.iconst 0, 1) := by decide +kernel
theorem dX2_faultPlace_87 : decode cX2_faultPlace 87 = .ok (.istore 5, 2) := by decide +kernel
theorem dX2_faultPlace_89 : decode cX2_faultPlace 89 = .ok (.goto 42, 3) := by decide +kernel
theorem dX2_faultPlace_92 : decode cX2_faultPlace 92 = .ok (.iload 4, 2) := by decide +kernel
theorem dX2_faultPlace_94 : decode cX2_faultPlace 94 = .ok (.bipush 59, 2) := by decide +kernel
theorem dX2_faultPlace_96 : decode cX2_faultPlace 96 = .ok (.if_icmp .ne 19, 3) := by decide +kernel
theorem dX2_faultPlace_99 : decode cX2_faultPlace 99 = .ok (.iload_n 1, 1) := by decide +kernel
theorem dX2_faultPlace_100 : decode cX2_faultPlace 100 = .ok (.ifCond .eq 7, 3) := by decide +kernel
theorem dX2_faultPlace_103 : decode cX2_faultPlace 103 = .ok (.iconst 1, 1) := by decide +kernel
theorem dX2_faultPlace_104 : decode cX2_faultPlace 104 = .ok (.goto 4, 3) := by decide +kernel
theorem dX2_faultPlace_107 : decode cX2_faultPlace 107 = .ok (.iconst 0, 1) := by decide +kernel
theorem dX2_faultPlace_108 : decode cX2_faultPlace 108 = .ok (.istore 5, 2) := by decide +kernel
theorem dX2_faultPlace_110 : decode cX2_faultPlace 110 = .ok (.iload_n 3, 1) := by decide +kernel
theorem dX2_faultPlace_111 : decode cX2_faultPlace 111 = .ok (.istore_n 2, 1) := by decide +kernel
theorem dX2_faultPlace_112 : decode cX2_faultPlace 112 = .ok (.goto 19, 3) := by decide +kernel
theorem dX2_faultPlace_115 : decode cX2_faultPlace 115 = .ok (.iload 4, 2) := by decide +kernel
theorem dX2_faultPlace_117 : decode cX2_faultPlace 117 = .ok (.iload_n 1, 1) := by decide +kernel
theorem dX2_faultPlace_118 : decode cX2_faultPlace 118 = .ok (.invokestatic 27, 3) := by decide +kernel
theorem dX2_faultPlace_121 : decode cX2_faultPlace 121 = .ok (.istore 5, 2) := by decide +kernel
theorem dX2_faultPlace_123 : decode cX2_faultPlace 123 = .ok (.iload_n 1, 1) := by decide +kernel
theorem dX2_faultPlace_124 : decode cX2_faultPlace 124 = .ok (.iload 4, 2) := by decide +kernel
theorem dX2_faultPlace_126 : decode cX2_faultPlace 126 = .ok (.invokestatic 31, 3) := by decide +kernel
theorem dX2_faultPlace_129 : decode cX2_faultPlace 129 = .ok (.ior, 1) := by decide +kernel
theorem dX2_faultPlace_130 : decode cX2_faultPlace 130 = .ok (.istore_n 1, 1) := by decide +kernel
theorem dX2_faultPlace_131 : decode cX2_faultPlace 131 = .ok (.iload 5, 2) := by decide +kernel
theorem dX2_faultPlace_133 : decode cX2_faultPlace 133 = .ok (.ifCond .ne 5, 3) := by decide +kernel
theorem dX2_faultPlace_136 : decode cX2_faultPlace 136 = .ok (.iload_n 3, 1) := by decide +kernel
theorem dX2_faultPlace_137 : decode cX2_faultPlace 137 = .ok (.ireturn, 1) := by decide +kernel
theorem dX2_faultPlace_138 : decode cX2_faultPlace 138 = .ok (.iinc 3 1, 3) := by decide +kernel
theorem dX2_faultPlace_141 : decode cX2_faultPlace 141 = .ok (.goto (-135), 3) := by decide +kernel
theorem dX2_faultPlace_144 : decode cX2_faultPlace 144 = .ok (.aload_n 0, 1) := by decide +kernel
theorem dX2_faultPlace_145 : decode cX2_faultPlace 145 = .ok (.getfield 15, 3) := by decide +kernel
theorem dX2_faultPlace_148 : decode cX2_faultPlace 148 = .ok (.ireturn, 1) := by decide +kernel
set_option maxRecDepth 20000 in
theorem ggX2_isShore_X2_heightsBehind : GoodIn wsX2_isShore wsX2_heightsBehind := goodIn_r _ [6, 1, 7, 24, 25] (by decide +kernel) (by decide +kernel)
set_option maxRecDepth 20000 in
theorem gX2_isShore_X2_heightsBehind : GoodIn wsX2_isShore (wsV RX2 35 RX2 yX2_heightsBehind wsX2_heightsBehind) := goodIn_app (goodIn_of _ (by decide +kernel)) ggX2_isShore_X2_heightsBehind
set_option maxRecDepth 20000 in
theorem ggX2_isShore_X2_faultPlace : GoodIn wsX2_isShore wsX2_faultPlace := goodIn_r _ [11, 1, 7, 12, 13, 5, 14, 15, 16, 17, 18, 19, 20, 21, 22, 23, 24, 25] (by decide +kernel) (by decide +kernel)
set_option maxRecDepth 20000 in
theorem gX2_isShore_X2_faultPlace : GoodIn wsX2_isShore (wsV RX2 39 RX2 yX2_faultPlace wsX2_faultPlace) := goodIn_app (goodIn_of _ (by decide +kernel)) ggX2_isShore_X2_faultPlace
theorem dX2_isShore_0 : decode cX2_isShore 0 = .ok (.aload_n 0, 1) := by decide +kernel
theorem dX2_isShore_1 : decode cX2_isShore 1 = .ok (.invokevirtual 35, 3) := by decide +kernel
theorem dX2_isShore_4 : decode cX2_isShore 4 = .ok (.istore_n 1, 1) := by decide +kernel
theorem dX2_isShore_5 : decode cX2_isShore 5 = .ok (.iload_n 1, 1) := by decide +kernel
theorem dX2_isShore_6 : decode cX2_isShore 6 = .ok (.iconst (-1), 1) := by decide +kernel
theorem dX2_isShore_7 : decode cX2_isShore 7 = .ok (.if_icmp .eq 30, 3) := by decide +kernel
theorem dX2_isShore_10 : decode cX2_isShore 10 = .ok (.aload_n 0, 1) := by decide +kernel
theorem dX2_isShore_11 : decode cX2_isShore 11 = .ok (.getfield 15, 3) := by decide +kernel
theorem dX2_isShore_14 : decode cX2_isShore 14 = .ok (.iconst 1, 1) := by decide +kernel
theorem dX2_isShore_15 : decode cX2_isShore 15 = .ok (.isub, 1) := by decide +kernel
theorem dX2_isShore_16 : decode cX2_isShore 16 = .ok (.iload_n 1, 1) := by decide +kernel
theorem dX2_isShore_17 : decode cX2_isShore 17 = .ok (.isub, 1) := by decide +kernel
theorem dX2_isShore_18 : decode cX2_isShore 18 = .ok (.iconst 2, 1) := by decide +kernel
theorem dX2_isShore_19 : decode cX2_isShore 19 = .ok (.if_icmp .lt 18, 3) := by decide +kernel
theorem dX2_isShore_22 : decode cX2_isShore 22 = .ok (.aload_n 0, 1) := by decide +kernel
theorem dX2_isShore_23 : decode cX2_isShore 23 = .ok (.invokevirtual 39, 3) := by decide +kernel
theorem dX2_isShore_26 : decode cX2_isShore 26 = .ok (.aload_n 0, 1) := by decide +kernel
theorem dX2_isShore_27 : decode cX2_isShore 27 = .ok (.getfield 15, 3) := by decide +kernel
theorem dX2_isShore_30 : decode cX2_isShore 30 = .ok (.if_icmp .ne 7, 3) := by decide +kernel
theorem dX2_isShore_33 : decode cX2_isShore 33 = .ok (.iconst 1, 1) := by decide +kernel
theorem dX2_isShore_34 : decode cX2_isShore 34 = .ok (.goto 4, 3) := by decide +kernel
theorem dX2_isShore_37 : decode cX2_isShore 37 = .ok (.iconst 0, 1) := by decide +kernel
theorem dX2_isShore_38 : decode cX2_isShore 38 = .ok (.ireturn, 1) := by decide +kernel
theorem dX2_heightsBehind_0 : decode cX2_heightsBehind 0 = .ok (.bipush 9, 2) := by decide +kernel
theorem dX2_heightsBehind_2 : decode cX2_heightsBehind 2 = .ok (.istore_n 1, 1) := by decide +kernel
theorem dX2_heightsBehind_3 : decode cX2_heightsBehind 3 = .ok (.iload_n 1, 1) := by decide +kernel
theorem dX2_heightsBehind_4 : decode cX2_heightsBehind 4 = .ok (.aload_n 0, 1) := by decide +kernel
theorem dX2_heightsBehind_5 : decode cX2_heightsBehind 5 = .ok (.getfield 15, 3) := by decide +kernel
theorem dX2_heightsBehind_8 : decode cX2_heightsBehind 8 = .ok (.if_icmp .ge 22, 3) := by decide +kernel
theorem dX2_heightsBehind_11 : decode cX2_heightsBehind 11 = .ok (.aload_n 0, 1) := by decide +kernel
theorem dX2_heightsBehind_12 : decode cX2_heightsBehind 12 = .ok (.getfield 9, 3) := by decide +kernel
theorem dX2_heightsBehind_15 : decode cX2_heightsBehind 15 = .ok (.iload_n 1, 1) := by decide +kernel
theorem dX2_heightsBehind_16 : decode cX2_heightsBehind 16 = .ok (.caload, 1) := by decide +kernel
theorem dX2_heightsBehind_17 : decode cX2_heightsBehind 17 = .ok (.bipush 59, 2) := by decide +kernel
theorem dX2_heightsBehind_19 : decode cX2_heightsBehind 19 = .ok (.if_icmp .ne 5, 3) := by decide +kernel
theorem dX2_heightsBehind_22 : decode cX2_heightsBehind 22 = .ok (.iload_n 1, 1) := by decide +kernel
theorem dX2_heightsBehind_23 : decode cX2_heightsBehind 23 = .ok (.ireturn, 1) := by decide +kernel
theorem dX2_heightsBehind_24 : decode cX2_heightsBehind 24 = .ok (.iinc 1 1, 3) := by decide +kernel
theorem dX2_heightsBehind_27 : decode cX2_heightsBehind 27 = .ok (.goto (-24), 3) := by decide +kernel
theorem dX2_heightsBehind_30 : decode cX2_heightsBehind 30 = .ok (.iconst (-1), 1) := by decide +kernel
theorem dX2_heightsBehind_31 : decode cX2_heightsBehind 31 = .ok (.ireturn, 1) := by decide +kernel
theorem dX2_letterOf_0 : decode cX2_letterOf 0 = .ok (.lload_n 0, 1) := by decide +kernel
theorem dX2_letterOf_1 : decode cX2_letterOf 1 = .ok (.bipush 8, 2) := by decide +kernel
theorem dX2_letterOf_3 : decode cX2_letterOf 3 = .ok (.iload_n 2, 1) := by decide +kernel
theorem dX2_letterOf_4 : decode cX2_letterOf 4 = .ok (.imul, 1) := by decide +kernel
theorem dX2_letterOf_5 : decode cX2_letterOf 5 = .ok (.lushr, 1) := by decide +kernel
theorem dX2_letterOf_6 : decode cX2_letterOf 6 = .ok (.ldc2_w 42, 3) := by decide +kernel
theorem dX2_letterOf_9 : decode cX2_letterOf 9 = .ok (.land, 1) := by decide +kernel
theorem dX2_letterOf_10 : decode cX2_letterOf 10 = .ok (.l2i, 1) := by decide +kernel
theorem dX2_letterOf_11 : decode cX2_letterOf 11 = .ok (.ireturn, 1) := by decide +kernel
theorem dX2_isDigit_0 : decode cX2_isDigit 0 = .ok (.iload_n 0, 1) := by decide +kernel
theorem dX2_isDigit_1 : decode cX2_isDigit 1 = .ok (.bipush 48, 2) := by decide +kernel
theorem dX2_isDigit_3 : decode cX2_isDigit 3 = .ok (.if_icmp .lt 13, 3) := by decide +kernel
theorem dX2_isDigit_6 : decode cX2_isDigit 6 = .ok (.iload_n 0, 1) := by decide +kernel
theorem dX2_isDigit_7 : decode cX2_isDigit 7 = .ok (.bipush 57, 2) := by decide +kernel
theorem dX2_isDigit_9 : decode cX2_isDigit 9 = .ok (.if_icmp .gt 7, 3) := by decide +kernel
theorem dX2_isDigit_12 : decode cX2_isDigit 12 = .ok (.iconst 1, 1) := by decide +kernel
theorem dX2_isDigit_13 : decode cX2_isDigit 13 = .ok (.goto 4, 3) := by decide +kernel
theorem dX2_isDigit_16 : decode cX2_isDigit 16 = .ok (.iconst 0, 1) := by decide +kernel
theorem dX2_isDigit_17 : decode cX2_isDigit 17 = .ok (.ireturn, 1) := by decide +kernel
set_option maxRecDepth 20000 in
theorem ggX2_isNewStair_X2_stairBit : GoodIn wsX2_isNewStair wsX2_stairBit := goodIn_r _ [4, 5, 6, 7] (by decide +kernel) (by decide +kernel)
set_option maxRecDepth 20000 in
theorem gX2_isNewStair_X2_stairBit : GoodIn wsX2_isNewStair (va_wsS RX2 31 yX2_stairBit wsX2_stairBit) := goodIn_app (goodIn_of _ (by decide +kernel)) ggX2_isNewStair_X2_stairBit
theorem dX2_isNewStair_0 : decode cX2_isNewStair 0 = .ok (.iload_n 0, 1) := by decide +kernel
theorem dX2_isNewStair_1 : decode cX2_isNewStair 1 = .ok (.invokestatic 31, 3) := by decide +kernel
theorem dX2_isNewStair_4 : decode cX2_isNewStair 4 = .ok (.istore_n 2, 1) := by decide +kernel
theorem dX2_isNewStair_5 : decode cX2_isNewStair 5 = .ok (.iload_n 2, 1) := by decide +kernel
theorem dX2_isNewStair_6 : decode cX2_isNewStair 6 = .ok (.ifCond .eq 13, 3) := by decide +kernel
theorem dX2_isNewStair_9 : decode cX2_isNewStair 9 = .ok (.iload_n 1, 1) := by decide +kernel
theorem dX2_isNewStair_10 : decode cX2_isNewStair 10 = .ok (.iload_n 2, 1) := by decide +kernel
theorem dX2_isNewStair_11 : decode cX2_isNewStair 11 = .ok (.iand, 1) := by decide +kernel
theorem dX2_isNewStair_12 : decode cX2_isNewStair 12 = .ok (.ifCond .ne 7, 3) := by decide +kernel
theorem dX2_isNewStair_15 : decode cX2_isNewStair 15 = .ok (.iconst 1, 1) := by decide +kernel
theorem dX2_isNewStair_16 : decode cX2_isNewStair 16 = .ok (.goto 4, 3) := by decide +kernel
theorem dX2_isNewStair_19 : decode cX2_isNewStair 19 = .ok (.iconst 0, 1) := by decide +kernel
theorem dX2_isNewStair_20 : decode cX2_isNewStair 20 = .ok (.ireturn, 1) := by decide +kernel
set_option maxRecDepth 20000 in
theorem ggX2_stairBit_X5_isCell : GoodIn wsX2_stairBit wsX5_isCell := goodIn_r _ [3] (by decide +kernel) (by decide +kernel)
set_option maxRecDepth 20000 in
theorem gX2_stairBit_X5_isCell_n44 : GoodIn wsX2_stairBit (wsX5_isCell) := ggX2_stairBit_X5_isCell
theorem dX2_stairBit_0 : decode cX2_stairBit 0 = .ok (.iload_n 0, 1) := by decide +kernel
theorem dX2_stairBit_1 : decode cX2_stairBit 1 = .ok (.bipush 48, 2) := by decide +kernel
theorem dX2_stairBit_3 : decode cX2_stairBit 3 = .ok (.isub, 1) := by decide +kernel
theorem dX2_stairBit_4 : decode cX2_stairBit 4 = .ok (.invokestatic 44, 3) := by decide +kernel
theorem dX2_stairBit_7 : decode cX2_stairBit 7 = .ok (.ifCond .eq 12, 3) := by decide +kernel
theorem dX2_stairBit_10 : decode cX2_stairBit 10 = .ok (.iconst 1, 1) := by decide +kernel
theorem dX2_stairBit_11 : decode cX2_stairBit 11 = .ok (.iload_n 0, 1) := by decide +kernel
theorem dX2_stairBit_12 : decode cX2_stairBit 12 = .ok (.bipush 48, 2) := by decide +kernel
theorem dX2_stairBit_14 : decode cX2_stairBit 14 = .ok (.isub, 1) := by decide +kernel
theorem dX2_stairBit_15 : decode cX2_stairBit 15 = .ok (.ishl, 1) := by decide +kernel
theorem dX2_stairBit_16 : decode cX2_stairBit 16 = .ok (.goto 4, 3) := by decide +kernel
theorem dX2_stairBit_19 : decode cX2_stairBit 19 = .ok (.iconst 0, 1) := by decide +kernel
theorem dX2_stairBit_20 : decode cX2_stairBit 20 = .ok (.ireturn, 1) := by decide +kernel
theorem dX3_init_0 : decode cX3_init 0 = .ok (.aload_n 0, 1) := by decide +kernel
theorem dX3_init_1 : decode cX3_init 1 = .ok (.invokespecial 3, 3) := by decide +kernel
theorem dX3_init_4 : decode cX3_init 4 = .ok (.aload_n 0, 1) := by decide +kernel
theorem dX3_init_5 : decode cX3_init 5 = .ok (.bipush 8, 2) := by decide +kernel
theorem dX3_init_7 : decode cX3_init 7 = .ok (.newarray .int, 2) := by decide +kernel
theorem dX3_init_9 : decode cX3_init 9 = .ok (.putfield 9, 3) := by decide +kernel
theorem dX3_init_12 : decode cX3_init 12 = .ok (.aload_n 0, 1) := by decide +kernel
theorem dX3_init_13 : decode cX3_init 13 = .ok (.bipush 8, 2) := by decide +kernel
theorem dX3_init_15 : decode cX3_init 15 = .ok (.newarray .int, 2) := by decide +kernel
theorem dX3_init_17 : decode cX3_init 17 = .ok (.putfield 15, 3) := by decide +kernel
theorem dX3_init_20 : decode cX3_init 20 = .ok (.aload_n 0, 1) := by decide +kernel
theorem dX3_init_21 : decode cX3_init 21 = .ok (.bipush 8, 2) := by decide +kernel
theorem dX3_init_23 : decode cX3_init 23 = .ok (.newarray .int, 2) := by decide +kernel
theorem dX3_init_25 : decode cX3_init 25 = .ok (.putfield 18, 3) := by decide +kernel
theorem dX3_init_28 : decode cX3_init 28 = .ok (.aload_n 0, 1) := by decide +kernel
theorem dX3_init_29 : decode cX3_init 29 = .ok (.iconst 0, 1) := by decide +kernel
theorem dX3_init_30 : decode cX3_init 30 = .ok (.putfield 21, 3) := by decide +kernel
theorem dX3_init_33 : decode cX3_init 33 = .ok (.aload_n 0, 1) := by decide +kernel
theorem dX3_init_34 : decode cX3_init 34 = .ok (.iconst (-1), 1) := by decide +kernel
theorem dX3_init_35 : decode cX3_init 35 = .ok (.putfield 25, 3) := by decide +kernel
theorem dX3_init_38 : decode cX3_init 38 = .ok (.aload_n 0, 1) := by decide +kernel
theorem dX3_init_39 : decode cX3_init 39 = .ok (.iconst 0, 1) := by decide +kernel
theorem dX3_init_40 : decode cX3_init 40 = .ok (.putfield 28, 3) := by decide +kernel
theorem dX3_init_43 : decode cX3_init 43 = .ok (.aload_n 0, 1) := by decide +kernel
theorem dX3_init_44 : decode cX3_init 44 = .ok (.iconst 0, 1) := by decide +kernel
theorem dX3_init_45 : decode cX3_init 45 = .ok (.putfield 31, 3) := by decide +kernel
theorem dX3_init_48 : decode cX3_init 48 = .ok (.aload_n 0, 1) := by decide +kernel
theorem dX3_init_49 : decode cX3_init 49 = .ok (.bipush 8, 2) := by decide +kernel
theorem dX3_init_51 : decode cX3_init 51 = .ok (.newarray .int, 2) := by decide +kernel
theorem dX3_init_53 : decode cX3_init 53 = .ok (.putfield 34, 3) := by decide +kernel
theorem dX3_init_56 : decode cX3_init 56 = .ok (.aload_n 0, 1) := by decide +kernel
theorem dX3_init_57 : decode cX3_init 57 = .ok (.iconst 0, 1) := by decide +kernel
theorem dX3_init_58 : decode cX3_init 58 = .ok (.putfield 37, 3) := by decide +kernel
theorem dX3_init_61 : decode cX3_init 61 = .ok (.return_, 1) := by decide +kernel
theorem dX3_clear_0 : decode cX3_clear 0 = .ok (.aload_n 0, 1) := by decide +kernel
theorem dX3_clear_1 : decode cX3_clear 1 = .ok (.iconst 0, 1) := by decide +kernel
theorem dX3_clear_2 : decode cX3_clear 2 = .ok (.putfield 21, 3) := by decide +kernel
theorem dX3_clear_5 : decode cX3_clear 5 = .ok (.aload_n 0, 1) := by decide +kernel
theorem dX3_clear_6 : decode cX3_clear 6 = .ok (.iconst (-1), 1) := by decide +kernel
theorem dX3_clear_7 : decode cX3_clear 7 = .ok (.putfield 25, 3) := by decide +kernel
theorem dX3_clear_10 : decode cX3_clear 10 = .ok (.aload_n 0, 1) := by decide +kernel
theorem dX3_clear_11 : decode cX3_clear 11 = .ok (.iconst 0, 1) := by decide +kernel
theorem dX3_clear_12 : decode cX3_clear 12 = .ok (.putfield 28, 3) := by decide +kernel
theorem dX3_clear_15 : decode cX3_clear 15 = .ok (.aload_n 0, 1) := by decide +kernel
theorem dX3_clear_16 : decode cX3_clear 16 = .ok (.iconst 0, 1) := by decide +kernel
theorem dX3_clear_17 : decode cX3_clear 17 = .ok (.putfield 31, 3) := by decide +kernel
theorem dX3_clear_20 : decode cX3_clear 20 = .ok (.return_, 1) := by decide +kernel
theorem dX3_copyFrom_0 : decode cX3_copyFrom 0 = .ok (.aload_n 1, 1) := by decide +kernel
theorem dX3_copyFrom_1 : decode cX3_copyFrom 1 = .ok (.getfield 9, 3) := by decide +kernel
theorem dX3_copyFrom_4 : decode cX3_copyFrom 4 = .ok (.iconst 0, 1) := by decide +kernel
theorem dX3_copyFrom_5 : decode cX3_copyFrom 5 = .ok (.aload_n 0, 1) := by decide +kernel
theorem dX3_copyFrom_6 : decode cX3_copyFrom 6 = .ok (.getfield 9, 3) := by decide +kernel
theorem dX3_copyFrom_9 : decode cX3_copyFrom 9 = .ok (.iconst 0, 1) := by decide +kernel
theorem dX3_copyFrom_10 : decode cX3_copyFrom 10 = .ok (.bipush 8, 2) := by decide +kernel
theorem dX3_copyFrom_12 : decode cX3_copyFrom 12 = .ok (.invokestatic 40, 3) := by decide +kernel
theorem dX3_copyFrom_15 : decode cX3_copyFrom 15 = .ok (.aload_n 1, 1) := by decide +kernel
theorem dX3_copyFrom_16 : decode cX3_copyFrom 16 = .ok (.getfield 15, 3) := by decide +kernel
theorem dX3_copyFrom_19 : decode cX3_copyFrom 19 = .ok (.iconst 0, 1) := by decide +kernel
theorem dX3_copyFrom_20 : decode cX3_copyFrom 20 = .ok (.aload_n 0, 1) := by decide +kernel
theorem dX3_copyFrom_21 : decode cX3_copyFrom 21 = .ok (.getfield 15, 3) := by decide +kernel
theorem dX3_copyFrom_24 : decode cX3_copyFrom 24 = .ok (.iconst 0, 1) := by decide +kernel
theorem dX3_copyFrom_25 : decode cX3_copyFrom 25 = .ok (.bipush 8, 2) := by decide +kernel
theorem dX3_copyFrom_27 : decode cX3_copyFrom 27 = .ok (.invokestatic 40, 3) := by decide +kernel
theorem dX3_copyFrom_30 : decode cX3_copyFrom 30 = .ok (.aload_n 1, 1) := by decide +kernel
theorem dX3_copyFrom_31 : decode cX3_copyFrom 31 = .ok (.getfield 18, 3) := by decide +kernel
theorem dX3_copyFrom_34 : decode cX3_copyFrom 34 = .ok (.iconst 0, 1) := by decide +kernel
theorem dX3_copyFrom_35 : decode cX3_copyFrom 35 = .ok (.aload_n 0, 1) := by decide +kernel
theorem dX3_copyFrom_36 : decode cX3_copyFrom 36 = .ok (.getfield 18, 3) := by decide +kernel
theorem dX3_copyFrom_39 : decode cX3_copyFrom 39 = .ok (.iconst 0, 1) := by decide +kernel
theorem dX3_copyFrom_40 : decode cX3_copyFrom 40 = .ok (.bipush 8, 2) := by decide +kernel
theorem dX3_copyFrom_42 : decode cX3_copyFrom 42 = .ok (.invokestatic 40, 3) := by decide +kernel
theorem dX3_copyFrom_45 : decode cX3_copyFrom 45 = .ok (.aload_n 1, 1) := by decide +kernel
theorem dX3_copyFrom_46 : decode cX3_copyFrom 46 = .ok (.getfield 34, 3) := by decide +kernel
theorem dX3_copyFrom_49 : decode cX3_copyFrom 49 = .ok (.iconst 0, 1) := by decide +kernel
theorem dX3_copyFrom_50 : decode cX3_copyFrom 50 = .ok (.aload_n 0, 1) := by decide +kernel
theorem dX3_copyFrom_51 : decode cX3_copyFrom 51 = .ok (.getfield 34, 3) := by decide +kernel
theorem dX3_copyFrom_54 : decode cX3_copyFrom 54 = .ok (.iconst 0, 1) := by decide +kernel
theorem dX3_copyFrom_55 : decode cX3_copyFrom 55 = .ok (.bipush 8, 2) := by decide +kernel
theorem dX3_copyFrom_57 : decode cX3_copyFrom 57 = .ok (.invokestatic 40, 3) := by decide +kernel
theorem dX3_copyFrom_60 : decode cX3_copyFrom 60 = .ok (.aload_n 0, 1) := by decide +kernel
theorem dX3_copyFrom_61 : decode cX3_copyFrom 61 = .ok (.aload_n 1, 1) := by decide +kernel
theorem dX3_copyFrom_62 : decode cX3_copyFrom 62 = .ok (.getfield 21, 3) := by decide +kernel
theorem dX3_copyFrom_65 : decode cX3_copyFrom 65 = .ok (.putfield 21, 3) := by decide +kernel
theorem dX3_copyFrom_68 : decode cX3_copyFrom 68 = .ok (.aload_n 0, 1) := by decide +kernel
theorem dX3_copyFrom_69 : decode cX3_copyFrom 69 = .ok (.aload_n 1, 1) := by decide +kernel
theorem dX3_copyFrom_70 : decode cX3_copyFrom 70 = .ok (.getfield 25, 3) := by decide +kernel
theorem dX3_copyFrom_73 : decode cX3_copyFrom 73 = .ok (.putfield 25, 3) := by decide +kernel
theorem dX3_copyFrom_76 : decode cX3_copyFrom 76 = .ok (.aload_n 0, 1) := by decide +kernel
theorem dX3_copyFrom_77 : decode cX3_copyFrom 77 = .ok (.aload_n 1, 1) := by decide +kernel
theorem dX3_copyFrom_78 : decode cX3_copyFrom 78 = .ok (.getfield 28, 3) := by decide +kernel
theorem dX3_copyFrom_81 : decode cX3_copyFrom 81 = .ok (.putfield 28, 3) := by decide +kernel
theorem dX3_copyFrom_84 : decode cX3_copyFrom 84 = .ok (.aload_n 0, 1) := by decide +kernel
theorem dX3_copyFrom_85 : decode cX3_copyFrom 85 = .ok (.aload_n 1, 1) := by decide +kernel
theorem dX3_copyFrom_86 : decode cX3_copyFrom 86 = .ok (.getfield 31, 3) := by decide +kernel
theorem dX3_copyFrom_89 : decode cX3_copyFrom 89 = .ok (.putfield 31, 3) := by decide +kernel
theorem dX3_copyFrom_92 : decode cX3_copyFrom 92 = .ok (.aload_n 0, 1) := by decide +kernel
theorem dX3_copyFrom_93 : decode cX3_copyFrom 93 = .ok (.aload_n 1, 1) := by decide +kernel
theorem dX3_copyFrom_94 : decode cX3_copyFrom 94 = .ok (.getfield 37, 3) := by decide +kernel
theorem dX3_copyFrom_97 : decode cX3_copyFrom 97 = .ok (.putfield 37, 3) := by decide +kernel
theorem dX3_copyFrom_100 : decode cX3_copyFrom 100 = .ok (.return_, 1) := by decide +kernel
theorem dX3_isThing_0 : decode cX3_isThing 0 = .ok (.iload_n 1, 1) := by decide +kernel
theorem dX3_isThing_1 : decode cX3_isThing 1 = .ok (.ifCond .lt 15, 3) := by decide +kernel
theorem dX3_isThing_4 : decode cX3_isThing 4 = .ok (.iload_n 1, 1) := by decide +kernel
theorem dX3_isThing_5 : decode cX3_isThing 5 = .ok (.aload_n 0, 1) := by decide +kernel
theorem dX3_isThing_6 : decode cX3_isThing 6 = .ok (.getfield 21, 3) := by decide +kernel
theorem dX3_isThing_9 : decode cX3_isThing 9 = .ok (.if_icmp .ge 7, 3) := by decide +kernel
theorem dX3_isThing_12 : decode cX3_isThing 12 = .ok (.iconst 1, 1) := by decide +kernel
theorem dX3_isThing_13 : decode cX3_isThing 13 = .ok (.goto 4, 3) := by decide +kernel
theorem dX3_isThing_16 : decode cX3_isThing 16 = .ok (.iconst 0, 1) := by decide +kernel
theorem dX3_isThing_17 : decode cX3_isThing 17 = .ok (.ireturn, 1) := by decide +kernel
theorem dX3_addThing_0 : decode cX3_addThing 0 = .ok (.aload_n 0, 1) := by decide +kernel
theorem dX3_addThing_1 : decode cX3_addThing 1 = .ok (.getfield 21, 3) := by decide +kernel
theorem dX3_addThing_4 : decode cX3_addThing 4 = .ok (.bipush 8, 2) := by decide +kernel
theorem dX3_addThing_6 : decode cX3_addThing 6 = .ok (.if_icmp .lt 6, 3) := by decide +kernel
theorem dX3_addThing_9 : decode cX3_addThing 9 = .ok (.bipush (-104), 2) := by decide +kernel
theorem dX3_addThing_11 : decode cX3_addThing 11 = .ok (.ireturn, 1) := by decide +kernel
theorem dX3_addThing_12 : decode cX3_addThing 12 = .ok (.aload_n 0, 1) := by decide +kernel
theorem dX3_addThing_13 : decode cX3_addThing 13 = .ok (.getfield 21, 3) := by decide +kernel
theorem dX3_addThing_16 : decode cX3_addThing 16 = .ok (.istore 4, 2) := by decide +kernel
theorem dX3_addThing_18 : decode cX3_addThing 18 = .ok (.aload_n 0, 1) := by decide +kernel
theorem dX3_addThing_19 : decode cX3_addThing 19 = .ok (.getfield 9, 3) := by decide +kernel
theorem dX3_addThing_22 : decode cX3_addThing 22 = .ok (.iload 4, 2) := by decide +kernel
theorem dX3_addThing_24 : decode cX3_addThing 24 = .ok (.iload_n 1, 1) := by decide +kernel
theorem dX3_addThing_25 : decode cX3_addThing 25 = .ok (.iastore, 1) := by decide +kernel
theorem dX3_addThing_26 : decode cX3_addThing 26 = .ok (.aload_n 0, 1) := by decide +kernel
theorem dX3_addThing_27 : decode cX3_addThing 27 = .ok (.getfield 15, 3) := by decide +kernel
theorem dX3_addThing_30 : decode cX3_addThing 30 = .ok (.iload 4, 2) := by decide +kernel
theorem dX3_addThing_32 : decode cX3_addThing 32 = .ok (.iload_n 2, 1) := by decide +kernel
theorem dX3_addThing_33 : decode cX3_addThing 33 = .ok (.iastore, 1) := by decide +kernel
theorem dX3_addThing_34 : decode cX3_addThing 34 = .ok (.aload_n 0, 1) := by decide +kernel
theorem dX3_addThing_35 : decode cX3_addThing 35 = .ok (.getfield 18, 3) := by decide +kernel
theorem dX3_addThing_38 : decode cX3_addThing 38 = .ok (.iload 4, 2) := by decide +kernel
theorem dX3_addThing_40 : decode cX3_addThing 40 = .ok (.iload_n 3, 1) := by decide +kernel
theorem dX3_addThing_41 : decode cX3_addThing 41 = .ok (.iastore, 1) := by decide +kernel
theorem dX3_addThing_42 : decode cX3_addThing 42 = .ok (.aload_n 0, 1) := by decide +kernel
theorem dX3_addThing_43 : decode cX3_addThing 43 = .ok (.dup, 1) := by decide +kernel
theorem dX3_addThing_44 : decode cX3_addThing 44 = .ok (.getfield 21, 3) := by decide +kernel
theorem dX3_addThing_47 : decode cX3_addThing 47 = .ok (.iconst 1, 1) := by decide +kernel
theorem dX3_addThing_48 : decode cX3_addThing 48 = .ok (.iadd, 1) := by decide +kernel
theorem dX3_addThing_49 : decode cX3_addThing 49 = .ok (.putfield 21, 3) := by decide +kernel
theorem dX3_addThing_52 : decode cX3_addThing 52 = .ok (.iload 4, 2) := by decide +kernel
theorem dX3_addThing_54 : decode cX3_addThing 54 = .ok (.ireturn, 1) := by decide +kernel
set_option maxRecDepth 20000 in
theorem ggX3_goOn_X4_drifted : GoodIn wsX3_goOn wsX4_drifted := goodIn_r _ [10, 11, 12, 13, 14, 15, 16, 17, 18, 9, 19, 20, 21, 22, 23, 24, 25, 26, 27, 28, 29, 30, 31, 32, 33, 34, 35, 36, 37, 38, 39, 40, 41, 42, 43, 44, 45, 55, 56, 57, 58] (by decide +kernel) (by decide +kernel)
set_option maxRecDepth 20000 in
theorem gX3_goOn_X4_drifted : GoodIn wsX3_goOn (wsV RX3 46 RX4 yX4_drifted wsX4_drifted) := goodIn_app (goodIn_of _ (by decide +kernel)) ggX3_goOn_X4_drifted
theorem dX3_goOn_0 : decode cX3_goOn 0 = .ok (.iconst 0, 1) := by decide +kernel
theorem dX3_goOn_1 : decode cX3_goOn 1 = .ok (.istore_n 2, 1) := by decide +kernel
theorem dX3_goOn_2 : decode cX3_goOn 2 = .ok (.iconst 0, 1) := by decide +kernel
theorem dX3_goOn_3 : decode cX3_goOn 3 = .ok (.istore_n 3, 1) := by decide +kernel
theorem dX3_goOn_4 : decode cX3_goOn 4 = .ok (.iload_n 3, 1) := by decide +kernel
theorem dX3_goOn_5 : decode cX3_goOn 5 = .ok (.aload_n 0, 1) := by decide +kernel
theorem dX3_goOn_6 : decode cX3_goOn 6 = .ok (.getfield 21, 3) := by decide +kernel
theorem dX3_goOn_9 : decode cX3_goOn 9 = .ok (.if_icmp .ge 57, 3) := by decide +kernel
theorem dX3_goOn_12 : decode cX3_goOn 12 = .ok (.aload_n 1, 1) := by decide +kernel
theorem dX3_goOn_13 : decode cX3_goOn 13 = .ok (.aload_n 0, 1) := by decide +kernel
theorem dX3_goOn_14 : decode cX3_goOn 14 = .ok (.getfield 9, 3) := by decide +kernel
theorem dX3_goOn_17 : decode cX3_goOn 17 = .ok (.iload_n 3, 1) := by decide +kernel
theorem dX3_goOn_18 : decode cX3_goOn 18 = .ok (.iaload, 1) := by decide +kernel
theorem dX3_goOn_19 : decode cX3_goOn 19 = .ok (.aload_n 0, 1) := by decide +kernel
theorem dX3_goOn_20 : decode cX3_goOn 20 = .ok (.getfield 15, 3) := by decide +kernel
theorem dX3_goOn_23 : decode cX3_goOn 23 = .ok (.iload_n 3, 1) := by decide +kernel
theorem dX3_goOn_24 : decode cX3_goOn 24 = .ok (.iaload, 1) := by decide +kernel
theorem dX3_goOn_25 : decode cX3_goOn 25 = .ok (.aload_n 0, 1) := by decide +kernel
theorem dX3_goOn_26 : decode cX3_goOn 26 = .ok (.getfield 28, 3) := by decide +kernel
theorem dX3_goOn_29 : decode cX3_goOn 29 = .ok (.aload_n 0, 1) := by decide +kernel
theorem dX3_goOn_30 : decode cX3_goOn 30 = .ok (.getfield 25, 3) := by decide +kernel
theorem dX3_goOn_33 : decode cX3_goOn 33 = .ok (.invokevirtual 46, 3) := by decide +kernel
theorem dX3_goOn_36 : decode cX3_goOn 36 = .ok (.istore 4, 2) := by decide +kernel
theorem dX3_goOn_38 : decode cX3_goOn 38 = .ok (.iload 4, 2) := by decide +kernel
theorem dX3_goOn_40 : decode cX3_goOn 40 = .ok (.aload_n 0, 1) := by decide +kernel
theorem dX3_goOn_41 : decode cX3_goOn 41 = .ok (.getfield 15, 3) := by decide +kernel
theorem dX3_goOn_44 : decode cX3_goOn 44 = .ok (.iload_n 3, 1) := by decide +kernel
theorem dX3_goOn_45 : decode cX3_goOn 45 = .ok (.iaload, 1) := by decide +kernel
theorem dX3_goOn_46 : decode cX3_goOn 46 = .ok (.if_icmp .eq 6, 3) := by decide +kernel
theorem dX3_goOn_49 : decode cX3_goOn 49 = .ok (.iinc 2 1, 3) := by decide +kernel
theorem dX3_goOn_52 : decode cX3_goOn 52 = .ok (.aload_n 0, 1) := by decide +kernel
theorem dX3_goOn_53 : decode cX3_goOn 53 = .ok (.getfield 15, 3) := by decide +kernel
theorem dX3_goOn_56 : decode cX3_goOn 56 = .ok (.iload_n 3, 1) := by decide +kernel
theorem dX3_goOn_57 : decode cX3_goOn 57 = .ok (.iload 4, 2) := by decide +kernel
theorem dX3_goOn_59 : decode cX3_goOn 59 = .ok (.iastore, 1) := by decide +kernel
theorem dX3_goOn_60 : decode cX3_goOn 60 = .ok (.iinc 3 1, 3) := by decide +kernel
theorem dX3_goOn_63 : decode cX3_goOn 63 = .ok (.goto (-59), 3) := by decide +kernel
theorem dX3_goOn_66 : decode cX3_goOn 66 = .ok (.aload_n 0, 1) := by decide +kernel
theorem dX3_goOn_67 : decode cX3_goOn 67 = .ok (.dup, 1) := by decide +kernel
theorem dX3_goOn_68 : decode cX3_goOn 68 = .ok (.getfield 28, 3) := by decide +kernel
theorem dX3_goOn_71 : decode cX3_goOn 71 = .ok (.iconst 1, 1) := by decide +kernel
theorem dX3_goOn_72 : decode cX3_goOn 72 = .ok (.iadd, 1) := by decide +kernel
theorem dX3_goOn_73 : decode cX3_goOn 73 = .ok (.putfield 28, 3) := by decide +kernel
theorem dX3_goOn_76 : decode cX3_goOn 76 = .ok (.iload_n 2, 1) := by decide +kernel
theorem dX3_goOn_77 : decode cX3_goOn 77 = .ok (.ireturn, 1) := by decide +kernel
theorem dX3_countIn_0 : decode cX3_countIn 0 = .ok (.iconst 0, 1) := by decide +kernel
theorem dX3_countIn_1 : decode cX3_countIn 1 = .ok (.istore_n 2, 1) := by decide +kernel
theorem dX3_countIn_2 : decode cX3_countIn 2 = .ok (.iconst 0, 1) := by decide +kernel
theorem dX3_countIn_3 : decode cX3_countIn 3 = .ok (.istore_n 3, 1) := by decide +kernel
theorem dX3_countIn_4 : decode cX3_countIn 4 = .ok (.iload_n 3, 1) := by decide +kernel
theorem dX3_countIn_5 : decode cX3_countIn 5 = .ok (.aload_n 0, 1) := by decide +kernel
theorem dX3_countIn_6 : decode cX3_countIn 6 = .ok (.getfield 21, 3) := by decide +kernel
theorem dX3_countIn_9 : decode cX3_countIn 9 = .ok (.if_icmp .ge 22, 3) := by decide +kernel
theorem dX3_countIn_12 : decode cX3_countIn 12 = .ok (.aload_n 0, 1) := by decide +kernel
theorem dX3_countIn_13 : decode cX3_countIn 13 = .ok (.getfield 15, 3) := by decide +kernel
theorem dX3_countIn_16 : decode cX3_countIn 16 = .ok (.iload_n 3, 1) := by decide +kernel
theorem dX3_countIn_17 : decode cX3_countIn 17 = .ok (.iaload, 1) := by decide +kernel
theorem dX3_countIn_18 : decode cX3_countIn 18 = .ok (.iload_n 1, 1) := by decide +kernel
theorem dX3_countIn_19 : decode cX3_countIn 19 = .ok (.if_icmp .ne 6, 3) := by decide +kernel
theorem dX3_countIn_22 : decode cX3_countIn 22 = .ok (.iinc 2 1, 3) := by decide +kernel
theorem dX3_countIn_25 : decode cX3_countIn 25 = .ok (.iinc 3 1, 3) := by decide +kernel
theorem dX3_countIn_28 : decode cX3_countIn 28 = .ok (.goto (-24), 3) := by decide +kernel
theorem dX3_countIn_31 : decode cX3_countIn 31 = .ok (.iload_n 2, 1) := by decide +kernel
theorem dX3_countIn_32 : decode cX3_countIn 32 = .ok (.ireturn, 1) := by decide +kernel
set_option maxRecDepth 20000 in
theorem ggX3_countInCells_X3_countIn : GoodIn wsX3_countInCells wsX3_countIn := goodIn_r _ [6, 1, 7, 8, 9, 10, 11, 12, 13, 14, 15, 16] (by decide +kernel) (by decide +kernel)
set_option maxRecDepth 20000 in
theorem gX3_countInCells_X3_countIn : GoodIn wsX3_countInCells (wsV RX3 52 RX3 yX3_countIn wsX3_countIn) := goodIn_app (goodIn_of _ (by decide +kernel)) ggX3_countInCells_X3_countIn
theorem dX3_countInCells_0 : decode cX3_countInCells 0 = .ok (.aload_n 0, 1) := by decide +kernel
theorem dX3_countInCells_1 : decode cX3_countInCells 1 = .ok (.getfield 21, 3) := by decide +kernel
theorem dX3_countInCells_4 : decode cX3_countInCells 4 = .ok (.aload_n 0, 1) := by decide +kernel
theorem dX3_countInCells_5 : decode cX3_countInCells 5 = .ok (.iconst (-1), 1) := by decide +kernel
theorem dX3_countInCells_6 : decode cX3_countInCells 6 = .ok (.invokevirtual 52, 3) := by decide +kernel
theorem dX3_countInCells_9 : decode cX3_countInCells 9 = .ok (.isub, 1) := by decide +kernel
theorem dX3_countInCells_10 : decode cX3_countInCells 10 = .ok (.aload_n 0, 1) := by decide +kernel
theorem dX3_countInCells_11 : decode cX3_countInCells 11 = .ok (.bipush (-2), 2) := by decide +kernel
theorem dX3_countInCells_13 : decode cX3_countInCells 13 = .ok (.invokevirtual 52, 3) := by decide +kernel
theorem dX3_countInCells_16 : decode cX3_countInCells 16 = .ok (.isub, 1) := by decide +kernel
theorem dX3_countInCells_17 : decode cX3_countInCells 17 = .ok (.ireturn, 1) := by decide +kernel
theorem dX3_takeAllIn_0 : decode cX3_takeAllIn 0 = .ok (.iconst 0, 1) := by decide +kernel
theorem dX3_takeAllIn_1 : decode cX3_takeAllIn 1 = .ok (.istore_n 2, 1) := by decide +kernel
theorem dX3_takeAllIn_2 : decode cX3_takeAllIn 2 = .ok (.iconst 0, 1) := by decide +kernel
theorem dX3_takeAllIn_3 : decode cX3_takeAllIn 3 = .ok (.istore_n 3, 1) := by decide +kernel
theorem dX3_takeAllIn_4 : decode cX3_takeAllIn 4 = .ok (.iload_n 3, 1) := by decide +kernel
theorem dX3_takeAllIn_5 : decode cX3_takeAllIn 5 = .ok (.aload_n 0, 1) := by decide +kernel
theorem dX3_takeAllIn_6 : decode cX3_takeAllIn 6 = .ok (.getfield 21, 3) := by decide +kernel
theorem dX3_takeAllIn_9 : decode cX3_takeAllIn 9 = .ok (.if_icmp .ge 35, 3) := by decide +kernel
theorem dX3_takeAllIn_12 : decode cX3_takeAllIn 12 = .ok (.aload_n 0, 1) := by decide +kernel
theorem dX3_takeAllIn_13 : decode cX3_takeAllIn 13 = .ok (.getfield 15, 3) := by decide +kernel
theorem dX3_takeAllIn_16 : decode cX3_takeAllIn 16 = .ok (.iload_n 3, 1) := by decide +kernel
theorem dX3_takeAllIn_17 : decode cX3_takeAllIn 17 = .ok (.iaload, 1) := by decide +kernel
theorem dX3_takeAllIn_18 : decode cX3_takeAllIn 18 = .ok (.iload_n 1, 1) := by decide +kernel
theorem dX3_takeAllIn_19 : decode cX3_takeAllIn 19 = .ok (.if_icmp .ne 19, 3) := by decide +kernel
theorem dX3_takeAllIn_22 : decode cX3_takeAllIn 22 = .ok (.iload_n 2, 1) := by decide +kernel
theorem dX3_takeAllIn_23 : decode cX3_takeAllIn 23 = .ok (.aload_n 0, 1) := by decide +kernel
theorem dX3_takeAllIn_24 : decode cX3_takeAllIn 24 = .ok (.getfield 18, 3) := by decide +kernel
theorem dX3_takeAllIn_27 : decode cX3_takeAllIn 27 = .ok (.iload_n 3, 1) := by decide +kernel
theorem dX3_takeAllIn_28 : decode cX3_takeAllIn 28 = .ok (.iaload, 1) := by decide +kernel
theorem dX3_takeAllIn_29 : decode cX3_takeAllIn 29 = .ok (.iadd, 1) := by decide +kernel
theorem dX3_takeAllIn_30 : decode cX3_takeAllIn 30 = .ok (.istore_n 2, 1) := by decide +kernel
theorem dX3_takeAllIn_31 : decode cX3_takeAllIn 31 = .ok (.aload_n 0, 1) := by decide +kernel
theorem dX3_takeAllIn_32 : decode cX3_takeAllIn 32 = .ok (.getfield 15, 3) := by decide +kernel
theorem dX3_takeAllIn_35 : decode cX3_takeAllIn 35 = .ok (.iload_n 3, 1) := by decide +kernel
theorem dX3_takeAllIn_36 : decode cX3_takeAllIn 36 = .ok (.iconst (-1), 1) := by decide +kernel
theorem dX3_takeAllIn_37 : decode cX3_takeAllIn 37 = .ok (.iastore, 1) := by decide +kernel
theorem dX3_takeAllIn_38 : decode cX3_takeAllIn 38 = .ok (.iinc 3 1, 3) := by decide +kernel
theorem dX3_takeAllIn_41 : decode cX3_takeAllIn 41 = .ok (.goto (-37), 3) := by decide +kernel
theorem dX3_takeAllIn_44 : decode cX3_takeAllIn 44 = .ok (.iload_n 2, 1) := by decide +kernel
theorem dX3_takeAllIn_45 : decode cX3_takeAllIn 45 = .ok (.ireturn, 1) := by decide +kernel
set_option maxRecDepth 20000 in
theorem ggX3_takeByDraw_X1_next : GoodIn wsX3_takeByDraw wsX1_next := goodIn_r _ [9, 10, 11, 12, 13, 14, 59] (by decide +kernel) (by decide +kernel)
set_option maxRecDepth 20000 in
theorem gX3_takeByDraw_X1_next : GoodIn wsX3_takeByDraw (wsV RX3 56 RX1 yX1_next wsX1_next) := goodIn_app (goodIn_of _ (by decide +kernel)) ggX3_takeByDraw_X1_next
set_option maxRecDepth 20000 in
theorem ggX3_takeByDraw_X3_isThing : GoodIn wsX3_takeByDraw wsX3_isThing := goodIn_r _ [19, 1, 50, 51, 52, 53, 54, 55, 56, 57, 58] (by decide +kernel) (by decide +kernel)
set_option maxRecDepth 20000 in
theorem gX3_takeByDraw_X3_isThing : GoodIn wsX3_takeByDraw (wsV RX3 61 RX3 yX3_isThing wsX3_isThing) := goodIn_app (goodIn_of _ (by decide +kernel)) ggX3_takeByDraw_X3_isThing
set_option maxRecDepth 20000 in
theorem ggX3_takeByDraw_X4_isDry : GoodIn wsX3_takeByDraw wsX4_isDry := goodIn_r _ [24, 25, 26, 27, 28, 29, 30, 23, 31, 32, 33, 34, 35, 36, 37, 38, 39, 40, 41, 42, 43, 44, 45, 46, 47, 48, 49, 60, 61, 62, 63] (by decide +kernel) (by decide +kernel)
set_option maxRecDepth 20000 in
theorem gX3_takeByDraw_X4_isDry : GoodIn wsX3_takeByDraw (wsV RX3 65 RX4 yX4_isDry wsX4_isDry) := goodIn_app (goodIn_of _ (by decide +kernel)) ggX3_takeByDraw_X4_isDry
theorem dX3_takeByDraw_0 : decode cX3_takeByDraw 0 = .ok (.aload_n 0, 1) := by decide +kernel
theorem dX3_takeByDraw_1 : decode cX3_takeByDraw 1 = .ok (.getfield 21, 3) := by decide +kernel
theorem dX3_takeByDraw_4 : decode cX3_takeByDraw 4 = .ok (.ifCond .eq 11, 3) := by decide +kernel
theorem dX3_takeByDraw_7 : decode cX3_takeByDraw 7 = .ok (.aload_n 1, 1) := by decide +kernel
theorem dX3_takeByDraw_8 : decode cX3_takeByDraw 8 = .ok (.iconst 4, 1) := by decide +kernel
theorem dX3_takeByDraw_9 : decode cX3_takeByDraw 9 = .ok (.invokevirtual 56, 3) := by decide +kernel
theorem dX3_takeByDraw_12 : decode cX3_takeByDraw 12 = .ok (.ifCond .eq 4, 3) := by decide +kernel
theorem dX3_takeByDraw_15 : decode cX3_takeByDraw 15 = .ok (.return_, 1) := by decide +kernel
theorem dX3_takeByDraw_16 : decode cX3_takeByDraw 16 = .ok (.aload_n 1, 1) := by decide +kernel
theorem dX3_takeByDraw_17 : decode cX3_takeByDraw 17 = .ok (.aload_n 0, 1) := by decide +kernel
theorem dX3_takeByDraw_18 : decode cX3_takeByDraw 18 = .ok (.getfield 21, 3) := by decide +kernel
theorem dX3_takeByDraw_21 : decode cX3_takeByDraw 21 = .ok (.invokevirtual 56, 3) := by decide +kernel
theorem dX3_takeByDraw_24 : decode cX3_takeByDraw 24 = .ok (.istore_n 3, 1) := by decide +kernel
theorem dX3_takeByDraw_25 : decode cX3_takeByDraw 25 = .ok (.aload_n 0, 1) := by decide +kernel
theorem dX3_takeByDraw_26 : decode cX3_takeByDraw 26 = .ok (.iload_n 3, 1) := by decide +kernel
theorem dX3_takeByDraw_27 : decode cX3_takeByDraw 27 = .ok (.invokevirtual 61, 3) := by decide +kernel
theorem dX3_takeByDraw_30 : decode cX3_takeByDraw 30 = .ok (.ifCond .eq 31, 3) := by decide +kernel
theorem dX3_takeByDraw_33 : decode cX3_takeByDraw 33 = .ok (.aload_n 2, 1) := by decide +kernel
theorem dX3_takeByDraw_34 : decode cX3_takeByDraw 34 = .ok (.aload_n 0, 1) := by decide +kernel
theorem dX3_takeByDraw_35 : decode cX3_takeByDraw 35 = .ok (.getfield 15, 3) := by decide +kernel
theorem dX3_takeByDraw_38 : decode cX3_takeByDraw 38 = .ok (.iload_n 3, 1) := by decide +kernel
theorem dX3_takeByDraw_39 : decode cX3_takeByDraw 39 = .ok (.iaload, 1) := by decide +kernel
theorem dX3_takeByDraw_40 : decode cX3_takeByDraw 40 = .ok (.aload_n 0, 1) := by decide +kernel
theorem dX3_takeByDraw_41 : decode cX3_takeByDraw 41 = .ok (.getfield 28, 3) := by decide +kernel
theorem dX3_takeByDraw_44 : decode cX3_takeByDraw 44 = .ok (.aload_n 0, 1) := by decide +kernel
theorem dX3_takeByDraw_45 : decode cX3_takeByDraw 45 = .ok (.getfield 25, 3) := by decide +kernel
theorem dX3_takeByDraw_48 : decode cX3_takeByDraw 48 = .ok (.invokevirtual 65, 3) := by decide +kernel
theorem dX3_takeByDraw_51 : decode cX3_takeByDraw 51 = .ok (.ifCond .eq 10, 3) := by decide +kernel
theorem dX3_takeByDraw_54 : decode cX3_takeByDraw 54 = .ok (.aload_n 0, 1) := by decide +kernel
theorem dX3_takeByDraw_55 : decode cX3_takeByDraw 55 = .ok (.getfield 15, 3) := by decide +kernel
theorem dX3_takeByDraw_58 : decode cX3_takeByDraw 58 = .ok (.iload_n 3, 1) := by decide +kernel
theorem dX3_takeByDraw_59 : decode cX3_takeByDraw 59 = .ok (.iconst (-1), 1) := by decide +kernel
theorem dX3_takeByDraw_60 : decode cX3_takeByDraw 60 = .ok (.iastore, 1) := by decide +kernel
theorem dX3_takeByDraw_61 : decode cX3_takeByDraw 61 = .ok (.return_, 1) := by decide +kernel
theorem dX3_worthTaken_0 : decode cX3_worthTaken 0 = .ok (.iconst 0, 1) := by decide +kernel
theorem dX3_worthTaken_1 : decode cX3_worthTaken 1 = .ok (.istore_n 1, 1) := by decide +kernel
theorem dX3_worthTaken_2 : decode cX3_worthTaken 2 = .ok (.iconst 0, 1) := by decide +kernel
theorem dX3_worthTaken_3 : decode cX3_worthTaken 3 = .ok (.istore_n 2, 1) := by decide +kernel
theorem dX3_worthTaken_4 : decode cX3_worthTaken 4 = .ok (.iload_n 2, 1) := by decide +kernel
theorem dX3_worthTaken_5 : decode cX3_worthTaken 5 = .ok (.aload_n 0, 1) := by decide +kernel
theorem dX3_worthTaken_6 : decode cX3_worthTaken 6 = .ok (.getfield 21, 3) := by decide +kernel
theorem dX3_worthTaken_9 : decode cX3_worthTaken 9 = .ok (.if_icmp .ge 28, 3) := by decide +kernel
theorem dX3_worthTaken_12 : decode cX3_worthTaken 12 = .ok (.aload_n 0, 1) := by decide +kernel
theorem dX3_worthTaken_13 : decode cX3_worthTaken 13 = .ok (.getfield 15, 3) := by decide +kernel
theorem dX3_worthTaken_16 : decode cX3_worthTaken 16 = .ok (.iload_n 2, 1) := by decide +kernel
theorem dX3_worthTaken_17 : decode cX3_worthTaken 17 = .ok (.iaload, 1) := by decide +kernel
theorem dX3_worthTaken_18 : decode cX3_worthTaken 18 = .ok (.iconst (-1), 1) := by decide +kernel
theorem dX3_worthTaken_19 : decode cX3_worthTaken 19 = .ok (.if_icmp .ne 12, 3) := by decide +kernel
theorem dX3_worthTaken_22 : decode cX3_worthTaken 22 = .ok (.iload_n 1, 1) := by decide +kernel
theorem dX3_worthTaken_23 : decode cX3_worthTaken 23 = .ok (.aload_n 0, 1) := by decide +kernel
theorem dX3_worthTaken_24 : decode cX3_worthTaken 24 = .ok (.getfield 18, 3) := by decide +kernel
theorem dX3_worthTaken_27 : decode cX3_worthTaken 27 = .ok (.iload_n 2, 1) := by decide +kernel
theorem dX3_worthTaken_28 : decode cX3_worthTaken 28 = .ok (.iaload, 1) := by decide +kernel
theorem dX3_worthTaken_29 : decode cX3_worthTaken 29 = .ok (.iadd, 1) := by decide +kernel
theorem dX3_worthTaken_30 : decode cX3_worthTaken 30 = .ok (.istore_n 1, 1) := by decide +kernel
theorem dX3_worthTaken_31 : decode cX3_worthTaken 31 = .ok (.iinc 2 1, 3) := by decide +kernel
theorem dX3_worthTaken_34 : decode cX3_worthTaken 34 = .ok (.goto (-30), 3) := by decide +kernel
theorem dX3_worthTaken_37 : decode cX3_worthTaken 37 = .ok (.iload_n 1, 1) := by decide +kernel
theorem dX3_worthTaken_38 : decode cX3_worthTaken 38 = .ok (.ireturn, 1) := by decide +kernel
set_option maxRecDepth 20000 in
theorem ggX3_cellsTogether_X5_isCell : GoodIn wsX3_cellsTogether wsX5_isCell := goodIn_r _ [5] (by decide +kernel) (by decide +kernel)
set_option maxRecDepth 20000 in
theorem gX3_cellsTogether_X5_isCell_n69 : GoodIn wsX3_cellsTogether (wsX5_isCell) := ggX3_cellsTogether_X5_isCell
theorem dX3_cellsTogether_0 : decode cX3_cellsTogether 0 = .ok (.iconst 0, 1) := by decide +kernel
theorem dX3_cellsTogether_1 : decode cX3_cellsTogether 1 = .ok (.istore_n 1, 1) := by decide +kernel
theorem dX3_cellsTogether_2 : decode cX3_cellsTogether 2 = .ok (.iconst 0, 1) := by decide +kernel
theorem dX3_cellsTogether_3 : decode cX3_cellsTogether 3 = .ok (.istore_n 2, 1) := by decide +kernel
theorem dX3_cellsTogether_4 : decode cX3_cellsTogether 4 = .ok (.iload_n 2, 1) := by decide +kernel
theorem dX3_cellsTogether_5 : decode cX3_cellsTogether 5 = .ok (.aload_n 0, 1) := by decide +kernel
theorem dX3_cellsTogether_6 : decode cX3_cellsTogether 6 = .ok (.getfield 21, 3) := by decide +kernel
theorem dX3_cellsTogether_9 : decode cX3_cellsTogether 9 = .ok (.if_icmp .ge 30, 3) := by decide +kernel
theorem dX3_cellsTogether_12 : decode cX3_cellsTogether 12 = .ok (.aload_n 0, 1) := by decide +kernel
theorem dX3_cellsTogether_13 : decode cX3_cellsTogether 13 = .ok (.getfield 15, 3) := by decide +kernel
theorem dX3_cellsTogether_16 : decode cX3_cellsTogether 16 = .ok (.iload_n 2, 1) := by decide +kernel
theorem dX3_cellsTogether_17 : decode cX3_cellsTogether 17 = .ok (.iaload, 1) := by decide +kernel
theorem dX3_cellsTogether_18 : decode cX3_cellsTogether 18 = .ok (.invokestatic 69, 3) := by decide +kernel
theorem dX3_cellsTogether_21 : decode cX3_cellsTogether 21 = .ok (.ifCond .eq 12, 3) := by decide +kernel
theorem dX3_cellsTogether_24 : decode cX3_cellsTogether 24 = .ok (.iload_n 1, 1) := by decide +kernel
theorem dX3_cellsTogether_25 : decode cX3_cellsTogether 25 = .ok (.aload_n 0, 1) := by decide +kernel
theorem dX3_cellsTogether_26 : decode cX3_cellsTogether 26 = .ok (.getfield 15, 3) := by decide +kernel
theorem dX3_cellsTogether_29 : decode cX3_cellsTogether 29 = .ok (.iload_n 2, 1) := by decide +kernel
theorem dX3_cellsTogether_30 : decode cX3_cellsTogether 30 = .ok (.iaload, 1) := by decide +kernel
theorem dX3_cellsTogether_31 : decode cX3_cellsTogether 31 = .ok (.iadd, 1) := by decide +kernel
theorem dX3_cellsTogether_32 : decode cX3_cellsTogether 32 = .ok (.istore_n 1, 1) := by decide +kernel
theorem dX3_cellsTogether_33 : decode cX3_cellsTogether 33 = .ok (.iinc 2 1, 3) := by decide +kernel
theorem dX3_cellsTogether_36 : decode cX3_cellsTogether 36 = .ok (.goto (-32), 3) := by decide +kernel
theorem dX3_cellsTogether_39 : decode cX3_cellsTogether 39 = .ok (.iload_n 1, 1) := by decide +kernel
theorem dX3_cellsTogether_40 : decode cX3_cellsTogether 40 = .ok (.ireturn, 1) := by decide +kernel
set_option maxRecDepth 20000 in
theorem ggX3_worthBelonging_X4_nearestStair : GoodIn wsX3_worthBelonging wsX4_nearestStair := goodIn_r _ [8, 9, 10, 11, 12, 13, 14, 15, 16, 17, 18, 7, 19, 20, 30, 31, 32, 33] (by decide +kernel) (by decide +kernel)
set_option maxRecDepth 20000 in
theorem gX3_worthBelonging_X4_nearestStair : GoodIn wsX3_worthBelonging (wsV RX3 72 RX4 yX4_nearestStair wsX4_nearestStair) := goodIn_app (goodIn_of _ (by decide +kernel)) ggX3_worthBelonging_X4_nearestStair
theorem dX3_worthBelonging_0 : decode cX3_worthBelonging 0 = .ok (.iconst 0, 1) := by decide +kernel
theorem dX3_worthBelonging_1 : decode cX3_worthBelonging 1 = .ok (.istore 4, 2) := by decide +kernel
theorem dX3_worthBelonging_3 : decode cX3_worthBelonging 3 = .ok (.iconst 0, 1) := by decide +kernel
theorem dX3_worthBelonging_4 : decode cX3_worthBelonging 4 = .ok (.istore 5, 2) := by decide +kernel
theorem dX3_worthBelonging_6 : decode cX3_worthBelonging 6 = .ok (.iload 5, 2) := by decide +kernel
theorem dX3_worthBelonging_8 : decode cX3_worthBelonging 8 = .ok (.aload_n 0, 1) := by decide +kernel
theorem dX3_worthBelonging_9 : decode cX3_worthBelonging 9 = .ok (.getfield 21, 3) := by decide +kernel
theorem dX3_worthBelonging_12 : decode cX3_worthBelonging 12 = .ok (.if_icmp .ge 37, 3) := by decide +kernel
theorem dX3_worthBelonging_15 : decode cX3_worthBelonging 15 = .ok (.aload_n 1, 1) := by decide +kernel
theorem dX3_worthBelonging_16 : decode cX3_worthBelonging 16 = .ok (.aload_n 0, 1) := by decide +kernel
theorem dX3_worthBelonging_17 : decode cX3_worthBelonging 17 = .ok (.getfield 15, 3) := by decide +kernel
theorem dX3_worthBelonging_20 : decode cX3_worthBelonging 20 = .ok (.iload 5, 2) := by decide +kernel
theorem dX3_worthBelonging_22 : decode cX3_worthBelonging 22 = .ok (.iaload, 1) := by decide +kernel
theorem dX3_worthBelonging_23 : decode cX3_worthBelonging 23 = .ok (.iload_n 3, 1) := by decide +kernel
theorem dX3_worthBelonging_24 : decode cX3_worthBelonging 24 = .ok (.invokevirtual 72, 3) := by decide +kernel
theorem dX3_worthBelonging_27 : decode cX3_worthBelonging 27 = .ok (.iload_n 2, 1) := by decide +kernel
theorem dX3_worthBelonging_28 : decode cX3_worthBelonging 28 = .ok (.if_icmp .ne 15, 3) := by decide +kernel
theorem dX3_worthBelonging_31 : decode cX3_worthBelonging 31 = .ok (.iload 4, 2) := by decide +kernel
theorem dX3_worthBelonging_33 : decode cX3_worthBelonging 33 = .ok (.aload_n 0, 1) := by decide +kernel
theorem dX3_worthBelonging_34 : decode cX3_worthBelonging 34 = .ok (.getfield 18, 3) := by decide +kernel
theorem dX3_worthBelonging_37 : decode cX3_worthBelonging 37 = .ok (.iload 5, 2) := by decide +kernel
theorem dX3_worthBelonging_39 : decode cX3_worthBelonging 39 = .ok (.iaload, 1) := by decide +kernel
theorem dX3_worthBelonging_40 : decode cX3_worthBelonging 40 = .ok (.iadd, 1) := by decide +kernel
theorem dX3_worthBelonging_41 : decode cX3_worthBelonging 41 = .ok (.istore 4, 2) := by decide +kernel
theorem dX3_worthBelonging_43 : decode cX3_worthBelonging 43 = .ok (.iinc 5 1, 3) := by decide +kernel
theorem dX3_worthBelonging_46 : decode cX3_worthBelonging 46 = .ok (.goto (-40), 3) := by decide +kernel
theorem dX3_worthBelonging_49 : decode cX3_worthBelonging 49 = .ok (.iload 4, 2) := by decide +kernel
theorem dX3_worthBelonging_51 : decode cX3_worthBelonging 51 = .ok (.ireturn, 1) := by decide +kernel
theorem dX3_beginMarks_0 : decode cX3_beginMarks 0 = .ok (.aload_n 0, 1) := by decide +kernel
theorem dX3_beginMarks_1 : decode cX3_beginMarks 1 = .ok (.iload_n 1, 1) := by decide +kernel
theorem dX3_beginMarks_2 : decode cX3_beginMarks 2 = .ok (.putfield 37, 3) := by decide +kernel
theorem dX3_beginMarks_5 : decode cX3_beginMarks 5 = .ok (.aload_n 0, 1) := by decide +kernel
theorem dX3_beginMarks_6 : decode cX3_beginMarks 6 = .ok (.getfield 34, 3) := by decide +kernel
theorem dX3_beginMarks_9 : decode cX3_beginMarks 9 = .ok (.iconst 0, 1) := by decide +kernel
theorem dX3_beginMarks_10 : decode cX3_beginMarks 10 = .ok (.iload_n 2, 1) := by decide +kernel
theorem dX3_beginMarks_11 : decode cX3_beginMarks 11 = .ok (.iastore, 1) := by decide +kernel
theorem dX3_beginMarks_12 : decode cX3_beginMarks 12 = .ok (.aload_n 0, 1) := by decide +kernel
theorem dX3_beginMarks_13 : decode cX3_beginMarks 13 = .ok (.iconst 1, 1) := by decide +kernel
theorem dX3_beginMarks_14 : decode cX3_beginMarks 14 = .ok (.putfield 31, 3) := by decide +kernel
theorem dX3_beginMarks_17 : decode cX3_beginMarks 17 = .ok (.return_, 1) := by decide +kernel
theorem dX3_addMark_0 : decode cX3_addMark 0 = .ok (.aload_n 0, 1) := by decide +kernel
theorem dX3_addMark_1 : decode cX3_addMark 1 = .ok (.getfield 31, 3) := by decide +kernel
theorem dX3_addMark_4 : decode cX3_addMark 4 = .ok (.bipush 8, 2) := by decide +kernel
theorem dX3_addMark_6 : decode cX3_addMark 6 = .ok (.if_icmp .lt 6, 3) := by decide +kernel
theorem dX3_addMark_9 : decode cX3_addMark 9 = .ok (.bipush (-104), 2) := by decide +kernel
theorem dX3_addMark_11 : decode cX3_addMark 11 = .ok (.ireturn, 1) := by decide +kernel
theorem dX3_addMark_12 : decode cX3_addMark 12 = .ok (.aload_n 0, 1) := by decide +kernel
theorem dX3_addMark_13 : decode cX3_addMark 13 = .ok (.getfield 34, 3) := by decide +kernel
theorem dX3_addMark_16 : decode cX3_addMark 16 = .ok (.aload_n 0, 1) := by decide +kernel
theorem dX3_addMark_17 : decode cX3_addMark 17 = .ok (.getfield 31, 3) := by decide +kernel
theorem dX3_addMark_20 : decode cX3_addMark 20 = .ok (.iload_n 1, 1) := by decide +kernel
theorem dX3_addMark_21 : decode cX3_addMark 21 = .ok (.iastore, 1) := by decide +kernel
theorem dX3_addMark_22 : decode cX3_addMark 22 = .ok (.aload_n 0, 1) := by decide +kernel
theorem dX3_addMark_23 : decode cX3_addMark 23 = .ok (.dup, 1) := by decide +kernel
theorem dX3_addMark_24 : decode cX3_addMark 24 = .ok (.getfield 31, 3) := by decide +kernel
theorem dX3_addMark_27 : decode cX3_addMark 27 = .ok (.iconst 1, 1) := by decide +kernel
theorem dX3_addMark_28 : decode cX3_addMark 28 = .ok (.iadd, 1) := by decide +kernel
theorem dX3_addMark_29 : decode cX3_addMark 29 = .ok (.putfield 31, 3) := by decide +kernel
theorem dX3_addMark_32 : decode cX3_addMark 32 = .ok (.aload_n 0, 1) := by decide +kernel
theorem dX3_addMark_33 : decode cX3_addMark 33 = .ok (.getfield 31, 3) := by decide +kernel
theorem dX3_addMark_36 : decode cX3_addMark 36 = .ok (.ireturn, 1) := by decide +kernel
set_option maxRecDepth 20000 in
theorem ggX3_couldBe_X4_drifted : GoodIn wsX3_couldBe wsX4_drifted := goodIn_r _ [9, 10, 11, 12, 13, 14, 15, 16, 17, 8, 18, 19, 20, 21, 22, 23, 24, 25, 26, 27, 28, 29, 30, 31, 32, 33, 34, 35, 36, 37, 38, 39, 40, 41, 42, 43, 44, 54, 55, 56, 57] (by decide +kernel) (by decide +kernel)
set_option maxRecDepth 20000 in
theorem gX3_couldBe_X4_drifted : GoodIn wsX3_couldBe (wsV RX3 46 RX4 yX4_drifted wsX4_drifted) := goodIn_app (goodIn_of _ (by decide +kernel)) ggX3_couldBe_X4_drifted
theorem dX3_couldBe_0 : decode cX3_couldBe 0 = .ok (.iconst 1, 1) := by decide +kernel
theorem dX3_couldBe_1 : decode cX3_couldBe 1 = .ok (.istore_n 3, 1) := by decide +kernel
theorem dX3_couldBe_2 : decode cX3_couldBe 2 = .ok (.iload_n 3, 1) := by decide +kernel
theorem dX3_couldBe_3 : decode cX3_couldBe 3 = .ok (.aload_n 0, 1) := by decide +kernel
theorem dX3_couldBe_4 : decode cX3_couldBe 4 = .ok (.getfield 31, 3) := by decide +kernel
theorem dX3_couldBe_7 : decode cX3_couldBe 7 = .ok (.if_icmp .ge 45, 3) := by decide +kernel
theorem dX3_couldBe_10 : decode cX3_couldBe 10 = .ok (.aload_n 2, 1) := by decide +kernel
theorem dX3_couldBe_11 : decode cX3_couldBe 11 = .ok (.iload_n 1, 1) := by decide +kernel
theorem dX3_couldBe_12 : decode cX3_couldBe 12 = .ok (.aload_n 0, 1) := by decide +kernel
theorem dX3_couldBe_13 : decode cX3_couldBe 13 = .ok (.getfield 34, 3) := by decide +kernel
theorem dX3_couldBe_16 : decode cX3_couldBe 16 = .ok (.iload_n 3, 1) := by decide +kernel
theorem dX3_couldBe_17 : decode cX3_couldBe 17 = .ok (.iconst 1, 1) := by decide +kernel
theorem dX3_couldBe_18 : decode cX3_couldBe 18 = .ok (.isub, 1) := by decide +kernel
theorem dX3_couldBe_19 : decode cX3_couldBe 19 = .ok (.iaload, 1) := by decide +kernel
theorem dX3_couldBe_20 : decode cX3_couldBe 20 = .ok (.aload_n 0, 1) := by decide +kernel
theorem dX3_couldBe_21 : decode cX3_couldBe 21 = .ok (.getfield 37, 3) := by decide +kernel
theorem dX3_couldBe_24 : decode cX3_couldBe 24 = .ok (.iload_n 3, 1) := by decide +kernel
theorem dX3_couldBe_25 : decode cX3_couldBe 25 = .ok (.iadd, 1) := by decide +kernel
theorem dX3_couldBe_26 : decode cX3_couldBe 26 = .ok (.iconst 1, 1) := by decide +kernel
theorem dX3_couldBe_27 : decode cX3_couldBe 27 = .ok (.isub, 1) := by decide +kernel
theorem dX3_couldBe_28 : decode cX3_couldBe 28 = .ok (.aload_n 0, 1) := by decide +kernel
theorem dX3_couldBe_29 : decode cX3_couldBe 29 = .ok (.getfield 25, 3) := by decide +kernel
theorem dX3_couldBe_32 : decode cX3_couldBe 32 = .ok (.invokevirtual 46, 3) := by decide +kernel
theorem dX3_couldBe_35 : decode cX3_couldBe 35 = .ok (.aload_n 0, 1) := by decide +kernel
theorem dX3_couldBe_36 : decode cX3_couldBe 36 = .ok (.getfield 34, 3) := by decide +kernel
theorem dX3_couldBe_39 : decode cX3_couldBe 39 = .ok (.iload_n 3, 1) := by decide +kernel
theorem dX3_couldBe_40 : decode cX3_couldBe 40 = .ok (.iaload, 1) := by decide +kernel
theorem dX3_couldBe_41 : decode cX3_couldBe 41 = .ok (.if_icmp .eq 5, 3) := by decide +kernel
theorem dX3_couldBe_44 : decode cX3_couldBe 44 = .ok (.iconst 0, 1) := by decide +kernel
theorem dX3_couldBe_45 : decode cX3_couldBe 45 = .ok (.ireturn, 1) := by decide +kernel
theorem dX3_couldBe_46 : decode cX3_couldBe 46 = .ok (.iinc 3 1, 3) := by decide +kernel
theorem dX3_couldBe_49 : decode cX3_couldBe 49 = .ok (.goto (-47), 3) := by decide +kernel
theorem dX3_couldBe_52 : decode cX3_couldBe 52 = .ok (.iconst 1, 1) := by decide +kernel
theorem dX3_couldBe_53 : decode cX3_couldBe 53 = .ok (.ireturn, 1) := by decide +kernel
theorem dX4_init_0 : decode cX4_init 0 = .ok (.aload_n 0, 1) := by decide +kernel
theorem dX4_init_1 : decode cX4_init 1 = .ok (.invokespecial 3, 3) := by decide +kernel
theorem dX4_init_4 : decode cX4_init 4 = .ok (.aload_n 0, 1) := by decide +kernel
theorem dX4_init_5 : decode cX4_init 5 = .ok (.bipush 8, 2) := by decide +kernel
theorem dX4_init_7 : decode cX4_init 7 = .ok (.newarray .int, 2) := by decide +kernel
theorem dX4_init_9 : decode cX4_init 9 = .ok (.putfield 9, 3) := by decide +kernel
theorem dX4_init_12 : decode cX4_init 12 = .ok (.aload_n 0, 1) := by decide +kernel
theorem dX4_init_13 : decode cX4_init 13 = .ok (.bipush 12, 2) := by decide +kernel
theorem dX4_init_15 : decode cX4_init 15 = .ok (.newarray .int, 2) := by decide +kernel
theorem dX4_init_17 : decode cX4_init 17 = .ok (.putfield 15, 3) := by decide +kernel
theorem dX4_init_20 : decode cX4_init 20 = .ok (.aload_n 0, 1) := by decide +kernel
theorem dX4_init_21 : decode cX4_init 21 = .ok (.iconst 0, 1) := by decide +kernel
theorem dX4_init_22 : decode cX4_init 22 = .ok (.putfield 18, 3) := by decide +kernel
theorem dX4_init_25 : decode cX4_init 25 = .ok (.aload_n 0, 1) := by decide +kernel
theorem dX4_init_26 : decode cX4_init 26 = .ok (.iconst 0, 1) := by decide +kernel
theorem dX4_init_27 : decode cX4_init 27 = .ok (.putfield 22, 3) := by decide +kernel
theorem dX4_init_30 : decode cX4_init 30 = .ok (.return_, 1) := by decide +kernel
set_option maxRecDepth 20000 in
theorem ggX4_readFrom_X2_heightsBehind : GoodIn wsX4_readFrom wsX2_heightsBehind := goodIn_r _ [11, 12, 13, 18, 19] (by decide +kernel) (by decide +kernel)
set_option maxRecDepth 20000 in
theorem gX4_readFrom_X2_heightsBehind : GoodIn wsX4_readFrom (wsV RX4 25 RX2 yX2_heightsBehind wsX2_heightsBehind) := goodIn_app (goodIn_of _ (by decide +kernel)) ggX4_readFrom_X2_heightsBehind
theorem dX4_readFrom_0 : decode cX4_readFrom 0 = .ok (.aload_n 1, 1) := by decide +kernel
theorem dX4_readFrom_1 : decode cX4_readFrom 1 = .ok (.invokevirtual 25, 3) := by decide +kernel
theorem dX4_readFrom_4 : decode cX4_readFrom 4 = .ok (.istore_n 2, 1) := by decide +kernel
theorem dX4_readFrom_5 : decode cX4_readFrom 5 = .ok (.iconst 0, 1) := by decide +kernel
theorem dX4_readFrom_6 : decode cX4_readFrom 6 = .ok (.istore_n 3, 1) := by decide +kernel
theorem dX4_readFrom_7 : decode cX4_readFrom 7 = .ok (.iload_n 3, 1) := by decide +kernel
theorem dX4_readFrom_8 : decode cX4_readFrom 8 = .ok (.bipush 8, 2) := by decide +kernel
theorem dX4_readFrom_10 : decode cX4_readFrom 10 = .ok (.if_icmp .ge 24, 3) := by decide +kernel
theorem dX4_readFrom_13 : decode cX4_readFrom 13 = .ok (.aload_n 0, 1) := by decide +kernel
theorem dX4_readFrom_14 : decode cX4_readFrom 14 = .ok (.getfield 9, 3) := by decide +kernel
theorem dX4_readFrom_17 : decode cX4_readFrom 17 = .ok (.iload_n 3, 1) := by decide +kernel
theorem dX4_readFrom_18 : decode cX4_readFrom 18 = .ok (.aload_n 1, 1) := by decide +kernel
theorem dX4_readFrom_19 : decode cX4_readFrom 19 = .ok (.getfield 31, 3) := by decide +kernel
theorem dX4_readFrom_22 : decode cX4_readFrom 22 = .ok (.iload_n 3, 1) := by decide +kernel
theorem dX4_readFrom_23 : decode cX4_readFrom 23 = .ok (.caload, 1) := by decide +kernel
theorem dX4_readFrom_24 : decode cX4_readFrom 24 = .ok (.bipush 48, 2) := by decide +kernel
theorem dX4_readFrom_26 : decode cX4_readFrom 26 = .ok (.isub, 1) := by decide +kernel
theorem dX4_readFrom_27 : decode cX4_readFrom 27 = .ok (.iastore, 1) := by decide +kernel
theorem dX4_readFrom_28 : decode cX4_readFrom 28 = .ok (.iinc 3 1, 3) := by decide +kernel
theorem dX4_readFrom_31 : decode cX4_readFrom 31 = .ok (.goto (-24), 3) := by decide +kernel
theorem dX4_readFrom_34 : decode cX4_readFrom 34 = .ok (.aload_n 0, 1) := by decide +kernel
theorem dX4_readFrom_35 : decode cX4_readFrom 35 = .ok (.iconst 0, 1) := by decide +kernel
theorem dX4_readFrom_36 : decode cX4_readFrom 36 = .ok (.putfield 22, 3) := by decide +kernel
theorem dX4_readFrom_39 : decode cX4_readFrom 39 = .ok (.bipush 9, 2) := by decide +kernel
theorem dX4_readFrom_41 : decode cX4_readFrom 41 = .ok (.istore_n 3, 1) := by decide +kernel
theorem dX4_readFrom_42 : decode cX4_readFrom 42 = .ok (.iload_n 3, 1) := by decide +kernel
theorem dX4_readFrom_43 : decode cX4_readFrom 43 = .ok (.iload_n 2, 1) := by decide +kernel
theorem dX4_readFrom_44 : decode cX4_readFrom 44 = .ok (.if_icmp .ge 29, 3) := by decide +kernel
theorem dX4_readFrom_47 : decode cX4_readFrom 47 = .ok (.aload_n 0, 1) := by decide +kernel
theorem dX4_readFrom_48 : decode cX4_readFrom 48 = .ok (.dup, 1) := by decide +kernel
theorem dX4_readFrom_49 : decode cX4_readFrom 49 = .ok (.getfield 22, 3) := by decide +kernel
theorem dX4_readFrom_52 : decode cX4_readFrom 52 = .ok (.iconst 1, 1) := by decide +kernel
theorem dX4_readFrom_53 : decode cX4_readFrom 53 = .ok (.aload_n 1, 1) := by decide +kernel
theorem dX4_readFrom_54 : decode cX4_readFrom 54 = .ok (.getfield 31, 3) := by decide +kernel
theorem dX4_readFrom_57 : decode cX4_readFrom 57 = .ok (.iload_n 3, 1) := by decide +kernel
theorem dX4_readFrom_58 : decode cX4_readFrom 58 = .ok (.caload, 1) := by decide +kernel
theorem dX4_readFrom_59 : decode cX4_readFrom 59 = .ok (.bipush 48, 2) := by decide +kernel
theorem dX4_readFrom_61 : decode cX4_readFrom 61 = .ok (.isub, 1) := by decide +kernel
theorem dX4_readFrom_62 : decode cX4_readFrom 62 = .ok (.ishl, 1) := by decide +kernel
theorem dX4_readFrom_63 : decode cX4_readFrom 63 = .ok (.ior, 1) := by decide +kernel
theorem dX4_readFrom_64 : decode cX4_readFrom 64 = .ok (.putfield 22, 3) := by decide +kernel
theorem dX4_readFrom_67 : decode cX4_readFrom 67 = .ok (.iinc 3 1, 3) := by decide +kernel
theorem dX4_readFrom_70 : decode cX4_readFrom 70 = .ok (.goto (-28), 3) := by decide +kernel
theorem dX4_readFrom_73 : decode cX4_readFrom 73 = .ok (.aload_n 0, 1) := by decide +kernel
theorem dX4_readFrom_74 : decode cX4_readFrom 74 = .ok (.iconst 0, 1) := by decide +kernel
theorem dX4_readFrom_75 : decode cX4_readFrom 75 = .ok (.putfield 18, 3) := by decide +kernel
theorem dX4_readFrom_78 : decode cX4_readFrom 78 = .ok (.iload_n 2, 1) := by decide +kernel
theorem dX4_readFrom_79 : decode cX4_readFrom 79 = .ok (.iconst 1, 1) := by decide +kernel
theorem dX4_readFrom_80 : decode cX4_readFrom 80 = .ok (.iadd, 1) := by decide +kernel
theorem dX4_readFrom_81 : decode cX4_readFrom 81 = .ok (.istore_n 3, 1) := by decide +kernel
theorem dX4_readFrom_82 : decode cX4_readFrom 82 = .ok (.iload_n 3, 1) := by decide +kernel
theorem dX4_readFrom_83 : decode cX4_readFrom 83 = .ok (.aload_n 1, 1) := by decide +kernel
theorem dX4_readFrom_84 : decode cX4_readFrom 84 = .ok (.getfield 35, 3) := by decide +kernel
theorem dX4_readFrom_87 : decode cX4_readFrom 87 = .ok (.if_icmp .ge 46, 3) := by decide +kernel
theorem dX4_readFrom_90 : decode cX4_readFrom 90 = .ok (.aload_n 0, 1) := by decide +kernel
theorem dX4_readFrom_91 : decode cX4_readFrom 91 = .ok (.getfield 18, 3) := by decide +kernel
theorem dX4_readFrom_94 : decode cX4_readFrom 94 = .ok (.bipush 12, 2) := by decide +kernel
theorem dX4_readFrom_96 : decode cX4_readFrom 96 = .ok (.if_icmp .ge 37, 3) := by decide +kernel
theorem dX4_readFrom_99 : decode cX4_readFrom 99 = .ok (.aload_n 0, 1) := by decide +kernel
theorem dX4_readFrom_100 : decode cX4_readFrom 100 = .ok (.getfield 15, 3) := by decide +kernel
theorem dX4_readFrom_103 : decode cX4_readFrom 103 = .ok (.aload_n 0, 1) := by decide +kernel
theorem dX4_readFrom_104 : decode cX4_readFrom 104 = .ok (.getfield 18, 3) := by decide +kernel
theorem dX4_readFrom_107 : decode cX4_readFrom 107 = .ok (.aload_n 1, 1) := by decide +kernel
theorem dX4_readFrom_108 : decode cX4_readFrom 108 = .ok (.getfield 31, 3) := by decide +kernel
theorem dX4_readFrom_111 : decode cX4_readFrom 111 = .ok (.iload_n 3, 1) := by decide +kernel
theorem dX4_readFrom_112 : decode cX4_readFrom 112 = .ok (.caload, 1) := by decide +kernel
theorem dX4_readFrom_113 : decode cX4_readFrom 113 = .ok (.bipush 48, 2) := by decide +kernel
theorem dX4_readFrom_115 : decode cX4_readFrom 115 = .ok (.isub, 1) := by decide +kernel
theorem dX4_readFrom_116 : decode cX4_readFrom 116 = .ok (.iastore, 1) := by decide +kernel
theorem dX4_readFrom_117 : decode cX4_readFrom 117 = .ok (.aload_n 0, 1) := by decide +kernel
theorem dX4_readFrom_118 : decode cX4_readFrom 118 = .ok (.dup, 1) := by decide +kernel
theorem dX4_readFrom_119 : decode cX4_readFrom 119 = .ok (.getfield 18, 3) := by decide +kernel
theorem dX4_readFrom_122 : decode cX4_readFrom 122 = .ok (.iconst 1, 1) := by decide +kernel
theorem dX4_readFrom_123 : decode cX4_readFrom 123 = .ok (.iadd, 1) := by decide +kernel
theorem dX4_readFrom_124 : decode cX4_readFrom 124 = .ok (.putfield 18, 3) := by decide +kernel
theorem dX4_readFrom_127 : decode cX4_readFrom 127 = .ok (.iinc 3 1, 3) := by decide +kernel
theorem dX4_readFrom_130 : decode cX4_readFrom 130 = .ok (.goto (-48), 3) := by decide +kernel
theorem dX4_readFrom_133 : decode cX4_readFrom 133 = .ok (.return_, 1) := by decide +kernel
set_option maxRecDepth 20000 in
theorem ggX4_hasStair_X5_isCell : GoodIn wsX4_hasStair wsX5_isCell := goodIn_r _ [4] (by decide +kernel) (by decide +kernel)
set_option maxRecDepth 20000 in
theorem gX4_hasStair_X5_isCell_n38 : GoodIn wsX4_hasStair (wsX5_isCell) := ggX4_hasStair_X5_isCell
theorem dX4_hasStair_0 : decode cX4_hasStair 0 = .ok (.iload_n 1, 1) := by decide +kernel
theorem dX4_hasStair_1 : decode cX4_hasStair 1 = .ok (.invokestatic 38, 3) := by decide +kernel
theorem dX4_hasStair_4 : decode cX4_hasStair 4 = .ok (.ifCond .eq 19, 3) := by decide +kernel
theorem dX4_hasStair_7 : decode cX4_hasStair 7 = .ok (.aload_n 0, 1) := by decide +kernel
theorem dX4_hasStair_8 : decode cX4_hasStair 8 = .ok (.getfield 22, 3) := by decide +kernel
theorem dX4_hasStair_11 : decode cX4_hasStair 11 = .ok (.iload_n 1, 1) := by decide +kernel
theorem dX4_hasStair_12 : decode cX4_hasStair 12 = .ok (.ishr, 1) := by decide +kernel
theorem dX4_hasStair_13 : decode cX4_hasStair 13 = .ok (.iconst 1, 1) := by decide +kernel
theorem dX4_hasStair_14 : decode cX4_hasStair 14 = .ok (.iand, 1) := by decide +kernel
theorem dX4_hasStair_15 : decode cX4_hasStair 15 = .ok (.iconst 1, 1) := by decide +kernel
theorem dX4_hasStair_16 : decode cX4_hasStair 16 = .ok (.if_icmp .ne 7, 3) := by decide +kernel
theorem dX4_hasStair_19 : decode cX4_hasStair 19 = .ok (.iconst 1, 1) := by decide +kernel
theorem dX4_hasStair_20 : decode cX4_hasStair 20 = .ok (.goto 4, 3) := by decide +kernel
theorem dX4_hasStair_23 : decode cX4_hasStair 23 = .ok (.iconst 0, 1) := by decide +kernel
theorem dX4_hasStair_24 : decode cX4_hasStair 24 = .ok (.ireturn, 1) := by decide +kernel
set_option maxRecDepth 20000 in
theorem ggX4_stairCount_J6_bitCount_0f7a4 : GoodIn wsX4_stairCount wsJ6_bitCount_0f7a4 := goodIn_r _ [5, 6, 7, 8] (by decide +kernel) (by decide +kernel)
set_option maxRecDepth 20000 in
theorem gX4_stairCount_J6_bitCount_0f7a4 : GoodIn wsX4_stairCount (va_wsS RX4 42 yJ6_bitCount_0f7a4 wsJ6_bitCount_0f7a4) := goodIn_app (goodIn_of _ (by decide +kernel)) ggX4_stairCount_J6_bitCount_0f7a4
theorem dX4_stairCount_0 : decode cX4_stairCount 0 = .ok (.aload_n 0, 1) := by decide +kernel
theorem dX4_stairCount_1 : decode cX4_stairCount 1 = .ok (.getfield 22, 3) := by decide +kernel
theorem dX4_stairCount_4 : decode cX4_stairCount 4 = .ok (.invokestatic 42, 3) := by decide +kernel
theorem dX4_stairCount_7 : decode cX4_stairCount 7 = .ok (.ireturn, 1) := by decide +kernel
set_option maxRecDepth 20000 in
theorem ggX4_heightIn_J9_floorMod_7cf53 : GoodIn wsX4_heightIn wsJ9_floorMod_7cf53 := goodIn_r _ [6] (by decide +kernel) (by decide +kernel)
set_option maxRecDepth 20000 in
theorem gX4_heightIn_J9_floorMod_7cf53 : GoodIn wsX4_heightIn (va_wsS RX4 48 yJ9_floorMod_7cf53 wsJ9_floorMod_7cf53) := goodIn_app (goodIn_of _ (by decide +kernel)) ggX4_heightIn_J9_floorMod_7cf53
theorem dX4_heightIn_0 : decode cX4_heightIn 0 = .ok (.aload_n 0, 1) := by decide +kernel
theorem dX4_heightIn_1 : decode cX4_heightIn 1 = .ok (.getfield 18, 3) := by decide +kernel
theorem dX4_heightIn_4 : decode cX4_heightIn 4 = .ok (.ifCond .gt 5, 3) := by decide +kernel
theorem dX4_heightIn_7 : decode cX4_heightIn 7 = .ok (.iconst 0, 1) := by decide +kernel
theorem dX4_heightIn_8 : decode cX4_heightIn 8 = .ok (.ireturn, 1) := by decide +kernel
theorem dX4_heightIn_9 : decode cX4_heightIn 9 = .ok (.aload_n 0, 1) := by decide +kernel
theorem dX4_heightIn_10 : decode cX4_heightIn 10 = .ok (.getfield 15, 3) := by decide +kernel
theorem dX4_heightIn_13 : decode cX4_heightIn 13 = .ok (.iload_n 1, 1) := by decide +kernel
theorem dX4_heightIn_14 : decode cX4_heightIn 14 = .ok (.aload_n 0, 1) := by decide +kernel
theorem dX4_heightIn_15 : decode cX4_heightIn 15 = .ok (.getfield 18, 3) := by decide +kernel
theorem dX4_heightIn_18 : decode cX4_heightIn 18 = .ok (.invokestatic 48, 3) := by decide +kernel
theorem dX4_heightIn_21 : decode cX4_heightIn 21 = .ok (.iaload, 1) := by decide +kernel
theorem dX4_heightIn_22 : decode cX4_heightIn 22 = .ok (.ireturn, 1) := by decide +kernel
set_option maxRecDepth 20000 in
theorem ggX4_isDry_X5_isCell : GoodIn wsX4_isDry wsX5_isCell := goodIn_r _ [3] (by decide +kernel) (by decide +kernel)
set_option maxRecDepth 20000 in
theorem gX4_isDry_X5_isCell_n38 : GoodIn wsX4_isDry (wsX5_isCell) := ggX4_isDry_X5_isCell
set_option maxRecDepth 20000 in
theorem ggX4_isDry_X4_heightIn : GoodIn wsX4_isDry wsX4_heightIn := goodIn_r _ [8, 9, 10, 11, 12, 13, 14, 27, 28, 29, 30] (by decide +kernel) (by decide +kernel)
set_option maxRecDepth 20000 in
theorem gX4_isDry_X4_heightIn : GoodIn wsX4_isDry (wsV RX4 54 RX4 yX4_heightIn wsX4_heightIn) := goodIn_app (goodIn_of _ (by decide +kernel)) ggX4_isDry_X4_heightIn
set_option maxRecDepth 20000 in
theorem ggX4_isDry_X4_levelUnder : GoodIn wsX4_isDry wsX4_levelUnder := goodIn_r _ [18, 19, 20, 21, 22, 23, 24, 25, 26, 27, 28, 29, 30] (by decide +kernel) (by decide +kernel)
set_option maxRecDepth 20000 in
theorem gX4_isDry_X4_levelUnder : GoodIn wsX4_isDry (wsV RX4 57 RX4 yX4_levelUnder wsX4_levelUnder) := goodIn_app (goodIn_of _ (by decide +kernel)) ggX4_isDry_X4_levelUnder
theorem dX4_isDry_0 : decode cX4_isDry 0 = .ok (.iload_n 1, 1) := by decide +kernel
theorem dX4_isDry_1 : decode cX4_isDry 1 = .ok (.invokestatic 38, 3) := by decide +kernel
theorem dX4_isDry_4 : decode cX4_isDry 4 = .ok (.ifCond .eq 21, 3) := by decide +kernel
theorem dX4_isDry_7 : decode cX4_isDry 7 = .ok (.aload_n 0, 1) := by decide +kernel
theorem dX4_isDry_8 : decode cX4_isDry 8 = .ok (.iload_n 2, 1) := by decide +kernel
theorem dX4_isDry_9 : decode cX4_isDry 9 = .ok (.invokevirtual 54, 3) := by decide +kernel
theorem dX4_isDry_12 : decode cX4_isDry 12 = .ok (.aload_n 0, 1) := by decide +kernel
theorem dX4_isDry_13 : decode cX4_isDry 13 = .ok (.iload_n 1, 1) := by decide +kernel
theorem dX4_isDry_14 : decode cX4_isDry 14 = .ok (.iload_n 3, 1) := by decide +kernel
theorem dX4_isDry_15 : decode cX4_isDry 15 = .ok (.invokevirtual 57, 3) := by decide +kernel
theorem dX4_isDry_18 : decode cX4_isDry 18 = .ok (.if_icmp .gt 7, 3) := by decide +kernel
theorem dX4_isDry_21 : decode cX4_isDry 21 = .ok (.iconst 1, 1) := by decide +kernel
theorem dX4_isDry_22 : decode cX4_isDry 22 = .ok (.goto 4, 3) := by decide +kernel
theorem dX4_isDry_25 : decode cX4_isDry 25 = .ok (.iconst 0, 1) := by decide +kernel
theorem dX4_isDry_26 : decode cX4_isDry 26 = .ok (.ireturn, 1) := by decide +kernel
theorem dX4_levelUnder_0 : decode cX4_levelUnder 0 = .ok (.iconst 0, 1) := by decide +kernel
theorem dX4_levelUnder_1 : decode cX4_levelUnder 1 = .ok (.istore_n 3, 1) := by decide +kernel
theorem dX4_levelUnder_2 : decode cX4_levelUnder 2 = .ok (.iload_n 2, 1) := by decide +kernel
theorem dX4_levelUnder_3 : decode cX4_levelUnder 3 = .ok (.iload_n 1, 1) := by decide +kernel
theorem dX4_levelUnder_4 : decode cX4_levelUnder 4 = .ok (.if_icmp .ne 8, 3) := by decide +kernel
theorem dX4_levelUnder_7 : decode cX4_levelUnder 7 = .ok (.iconst 2, 1) := by decide +kernel
theorem dX4_levelUnder_8 : decode cX4_levelUnder 8 = .ok (.istore_n 3, 1) := by decide +kernel
theorem dX4_levelUnder_9 : decode cX4_levelUnder 9 = .ok (.goto 20, 3) := by decide +kernel
theorem dX4_levelUnder_12 : decode cX4_levelUnder 12 = .ok (.iload_n 2, 1) := by decide +kernel
theorem dX4_levelUnder_13 : decode cX4_levelUnder 13 = .ok (.iconst (-1), 1) := by decide +kernel
theorem dX4_levelUnder_14 : decode cX4_levelUnder 14 = .ok (.if_icmp .eq 15, 3) := by decide +kernel
theorem dX4_levelUnder_17 : decode cX4_levelUnder 17 = .ok (.iload_n 2, 1) := by decide +kernel
theorem dX4_levelUnder_18 : decode cX4_levelUnder 18 = .ok (.iload_n 1, 1) := by decide +kernel
theorem dX4_levelUnder_19 : decode cX4_levelUnder 19 = .ok (.isub, 1) := by decide +kernel
theorem dX4_levelUnder_20 : decode cX4_levelUnder 20 = .ok (.invokestatic 60, 3) := by decide +kernel
theorem dX4_levelUnder_23 : decode cX4_levelUnder 23 = .ok (.iconst 1, 1) := by decide +kernel
theorem dX4_levelUnder_24 : decode cX4_levelUnder 24 = .ok (.if_icmp .ne 5, 3) := by decide +kernel
theorem dX4_levelUnder_27 : decode cX4_levelUnder 27 = .ok (.iconst 1, 1) := by decide +kernel
theorem dX4_levelUnder_28 : decode cX4_levelUnder 28 = .ok (.istore_n 3, 1) := by decide +kernel
theorem dX4_levelUnder_29 : decode cX4_levelUnder 29 = .ok (.iconst 0, 1) := by decide +kernel
theorem dX4_levelUnder_30 : decode cX4_levelUnder 30 = .ok (.aload_n 0, 1) := by decide +kernel
theorem dX4_levelUnder_31 : decode cX4_levelUnder 31 = .ok (.getfield 9, 3) := by decide +kernel
theorem dX4_levelUnder_34 : decode cX4_levelUnder 34 = .ok (.iload_n 1, 1) := by decide +kernel
theorem dX4_levelUnder_35 : decode cX4_levelUnder 35 = .ok (.iaload, 1) := by decide +kernel
theorem dX4_levelUnder_36 : decode cX4_levelUnder 36 = .ok (.iload_n 3, 1) := by decide +kernel
theorem dX4_levelUnder_37 : decode cX4_levelUnder 37 = .ok (.isub, 1) := by decide +kernel
theorem dX4_levelUnder_38 : decode cX4_levelUnder 38 = .ok (.invokestatic 63, 3) := by decide +kernel
theorem dX4_levelUnder_41 : decode cX4_levelUnder 41 = .ok (.ireturn, 1) := by decide +kernel
set_option maxRecDepth 20000 in
theorem ggX4_drifted_X5_isKind : GoodIn wsX4_drifted wsX5_isKind := goodIn_r _ [3] (by decide +kernel) (by decide +kernel)
set_option maxRecDepth 20000 in
theorem gX4_drifted_X5_isKind_n66 : GoodIn wsX4_drifted (wsX5_isKind) := ggX4_drifted_X5_isKind
set_option maxRecDepth 20000 in
theorem ggX4_drifted_X5_isCell : GoodIn wsX4_drifted wsX5_isCell := goodIn_r _ [5] (by decide +kernel) (by decide +kernel)
set_option maxRecDepth 20000 in
theorem gX4_drifted_X5_isCell_n38 : GoodIn wsX4_drifted (wsX5_isCell) := ggX4_drifted_X5_isCell
set_option maxRecDepth 20000 in
theorem ggX4_drifted_X4_isDry : GoodIn wsX4_drifted wsX4_isDry := goodIn_r _ [10, 4, 2, 5, 11, 12, 13, 9, 14, 15, 16, 17, 18, 19, 20, 21, 22, 23, 24, 25, 26, 27, 28, 29, 30, 31, 32, 37, 38, 39, 40] (by decide +kernel) (by decide +kernel)
set_option maxRecDepth 20000 in
theorem gX4_drifted_X4_isDry : GoodIn wsX4_drifted (wsV RX4 69 RX4 yX4_isDry wsX4_isDry) := goodIn_app (goodIn_of _ (by decide +kernel)) ggX4_drifted_X4_isDry
set_option maxRecDepth 20000 in
theorem ggX4_drifted_X4_heightIn : GoodIn wsX4_drifted wsX4_heightIn := goodIn_r _ [14, 15, 16, 17, 18, 19, 20, 37, 38, 39, 40] (by decide +kernel) (by decide +kernel)
set_option maxRecDepth 20000 in
theorem gX4_drifted_X4_heightIn : GoodIn wsX4_drifted (wsV RX4 54 RX4 yX4_heightIn wsX4_heightIn) := goodIn_app (goodIn_of _ (by decide +kernel)) ggX4_drifted_X4_heightIn
set_option maxRecDepth 20000 in
theorem ggX4_drifted_X4_carried : GoodIn wsX4_drifted wsX4_carried := goodIn_r _ [36, 6, 7, 8, 9, 10, 4, 2, 5, 11, 12, 13, 14, 15, 16, 17, 18, 19, 20, 21, 22, 23, 24, 25, 26, 27, 28, 29, 30, 31, 32, 37, 38, 39, 40] (by decide +kernel) (by decide +kernel)
set_option maxRecDepth 20000 in
theorem gX4_drifted_X4_carried : GoodIn wsX4_drifted (wsV RX4 76 RX4 yX4_carried wsX4_carried) := goodIn_app (goodIn_of _ (by decide +kernel)) ggX4_drifted_X4_carried
theorem dX4_drifted_0 : decode cX4_drifted 0 = .ok (.iload_n 1, 1) := by decide +kernel
theorem dX4_drifted_1 : decode cX4_drifted 1 = .ok (.invokestatic 66, 3) := by decide +kernel
theorem dX4_drifted_4 : decode cX4_drifted 4 = .ok (.ifCond .eq 21, 3) := by decide +kernel
theorem dX4_drifted_7 : decode cX4_drifted 7 = .ok (.iload_n 2, 1) := by decide +kernel
theorem dX4_drifted_8 : decode cX4_drifted 8 = .ok (.invokestatic 38, 3) := by decide +kernel
theorem dX4_drifted_11 : decode cX4_drifted 11 = .ok (.ifCond .eq 14, 3) := by decide +kernel
theorem dX4_drifted_14 : decode cX4_drifted 14 = .ok (.aload_n 0, 1) := by decide +kernel
theorem dX4_drifted_15 : decode cX4_drifted 15 = .ok (.iload_n 2, 1) := by decide +kernel
theorem dX4_drifted_16 : decode cX4_drifted 16 = .ok (.iload_n 3, 1) := by decide +kernel
theorem dX4_drifted_17 : decode cX4_drifted 17 = .ok (.iload 4, 2) := by decide +kernel
theorem dX4_drifted_19 : decode cX4_drifted 19 = .ok (.invokevirtual 69, 3) := by decide +kernel
theorem dX4_drifted_22 : decode cX4_drifted 22 = .ok (.ifCond .eq 5, 3) := by decide +kernel
theorem dX4_drifted_25 : decode cX4_drifted 25 = .ok (.iload_n 2, 1) := by decide +kernel
theorem dX4_drifted_26 : decode cX4_drifted 26 = .ok (.ireturn, 1) := by decide +kernel
theorem dX4_drifted_27 : decode cX4_drifted 27 = .ok (.aload_n 0, 1) := by decide +kernel
theorem dX4_drifted_28 : decode cX4_drifted 28 = .ok (.iload_n 3, 1) := by decide +kernel
theorem dX4_drifted_29 : decode cX4_drifted 29 = .ok (.invokevirtual 54, 3) := by decide +kernel
theorem dX4_drifted_32 : decode cX4_drifted 32 = .ok (.istore 5, 2) := by decide +kernel
theorem dX4_drifted_34 : decode cX4_drifted 34 = .ok (.aload_n 0, 1) := by decide +kernel
theorem dX4_drifted_35 : decode cX4_drifted 35 = .ok (.iload_n 3, 1) := by decide +kernel
theorem dX4_drifted_36 : decode cX4_drifted 36 = .ok (.iconst 1, 1) := by decide +kernel
theorem dX4_drifted_37 : decode cX4_drifted 37 = .ok (.iadd, 1) := by decide +kernel
theorem dX4_drifted_38 : decode cX4_drifted 38 = .ok (.invokevirtual 54, 3) := by decide +kernel
theorem dX4_drifted_41 : decode cX4_drifted 41 = .ok (.istore 6, 2) := by decide +kernel
theorem dX4_drifted_43 : decode cX4_drifted 43 = .ok (.iload 6, 2) := by decide +kernel
theorem dX4_drifted_45 : decode cX4_drifted 45 = .ok (.iload 5, 2) := by decide +kernel
theorem dX4_drifted_47 : decode cX4_drifted 47 = .ok (.if_icmp .le 20, 3) := by decide +kernel
theorem dX4_drifted_50 : decode cX4_drifted 50 = .ok (.aload_n 0, 1) := by decide +kernel
theorem dX4_drifted_51 : decode cX4_drifted 51 = .ok (.iload_n 2, 1) := by decide +kernel
theorem dX4_drifted_52 : decode cX4_drifted 52 = .ok (.iconst 1, 1) := by decide +kernel
theorem dX4_drifted_53 : decode cX4_drifted 53 = .ok (.getstatic 73, 3) := by decide +kernel
theorem dX4_drifted_56 : decode cX4_drifted 56 = .ok (.iload_n 1, 1) := by decide +kernel
theorem dX4_drifted_57 : decode cX4_drifted 57 = .ok (.iaload, 1) := by decide +kernel
theorem dX4_drifted_58 : decode cX4_drifted 58 = .ok (.iload_n 3, 1) := by decide +kernel
theorem dX4_drifted_59 : decode cX4_drifted 59 = .ok (.iconst 1, 1) := by decide +kernel
theorem dX4_drifted_60 : decode cX4_drifted 60 = .ok (.iadd, 1) := by decide +kernel
theorem dX4_drifted_61 : decode cX4_drifted 61 = .ok (.iload 4, 2) := by decide +kernel
theorem dX4_drifted_63 : decode cX4_drifted 63 = .ok (.invokevirtual 76, 3) := by decide +kernel
theorem dX4_drifted_66 : decode cX4_drifted 66 = .ok (.ireturn, 1) := by decide +kernel
theorem dX4_drifted_67 : decode cX4_drifted 67 = .ok (.iload 6, 2) := by decide +kernel
theorem dX4_drifted_69 : decode cX4_drifted 69 = .ok (.iload 5, 2) := by decide +kernel
theorem dX4_drifted_71 : decode cX4_drifted 71 = .ok (.if_icmp .ge 20, 3) := by decide +kernel
theorem dX4_drifted_74 : decode cX4_drifted 74 = .ok (.aload_n 0, 1) := by decide +kernel
theorem dX4_drifted_75 : decode cX4_drifted 75 = .ok (.iload_n 2, 1) := by decide +kernel
theorem dX4_drifted_76 : decode cX4_drifted 76 = .ok (.iconst (-1), 1) := by decide +kernel
theorem dX4_drifted_77 : decode cX4_drifted 77 = .ok (.getstatic 80, 3) := by decide +kernel
theorem dX4_drifted_80 : decode cX4_drifted 80 = .ok (.iload_n 1, 1) := by decide +kernel
theorem dX4_drifted_81 : decode cX4_drifted 81 = .ok (.iaload, 1) := by decide +kernel
theorem dX4_drifted_82 : decode cX4_drifted 82 = .ok (.iload_n 3, 1) := by decide +kernel
theorem dX4_drifted_83 : decode cX4_drifted 83 = .ok (.iconst 1, 1) := by decide +kernel
theorem dX4_drifted_84 : decode cX4_drifted 84 = .ok (.iadd, 1) := by decide +kernel
theorem dX4_drifted_85 : decode cX4_drifted 85 = .ok (.iload 4, 2) := by decide +kernel
theorem dX4_drifted_87 : decode cX4_drifted 87 = .ok (.invokevirtual 76, 3) := by decide +kernel
theorem dX4_drifted_90 : decode cX4_drifted 90 = .ok (.ireturn, 1) := by decide +kernel
theorem dX4_drifted_91 : decode cX4_drifted 91 = .ok (.iload_n 2, 1) := by decide +kernel
theorem dX4_drifted_92 : decode cX4_drifted 92 = .ok (.ireturn, 1) := by decide +kernel
set_option maxRecDepth 20000 in
theorem ggX4_carried_X4_isDry : GoodIn wsX4_carried wsX4_isDry := goodIn_r _ [5, 6, 7, 8, 9, 10, 11, 4, 12, 13, 14, 15, 16, 17, 18, 19, 20, 21, 22, 23, 24, 25, 26, 27, 28, 29, 30, 31, 32, 33, 34] (by decide +kernel) (by decide +kernel)
set_option maxRecDepth 20000 in
theorem gX4_carried_X4_isDry : GoodIn wsX4_carried (wsV RX4 69 RX4 yX4_isDry wsX4_isDry) := goodIn_app (goodIn_of _ (by decide +kernel)) ggX4_carried_X4_isDry
theorem dX4_carried_0 : decode cX4_carried 0 = .ok (.iload_n 1, 1) := by decide +kernel
theorem dX4_carried_1 : decode cX4_carried 1 = .ok (.istore 6, 2) := by decide +kernel
theorem dX4_carried_3 : decode cX4_carried 3 = .ok (.iconst 0, 1) := by decide +kernel
theorem dX4_carried_4 : decode cX4_carried 4 = .ok (.istore 7, 2) := by decide +kernel
theorem dX4_carried_6 : decode cX4_carried 6 = .ok (.iload 7, 2) := by decide +kernel
theorem dX4_carried_8 : decode cX4_carried 8 = .ok (.iload_n 3, 1) := by decide +kernel
theorem dX4_carried_9 : decode cX4_carried 9 = .ok (.if_icmp .ge 53, 3) := by decide +kernel
theorem dX4_carried_12 : decode cX4_carried 12 = .ok (.iload 6, 2) := by decide +kernel
theorem dX4_carried_14 : decode cX4_carried 14 = .ok (.iload_n 2, 1) := by decide +kernel
theorem dX4_carried_15 : decode cX4_carried 15 = .ok (.iadd, 1) := by decide +kernel
theorem dX4_carried_16 : decode cX4_carried 16 = .ok (.istore 8, 2) := by decide +kernel
theorem dX4_carried_18 : decode cX4_carried 18 = .ok (.iload 8, 2) := by decide +kernel
theorem dX4_carried_20 : decode cX4_carried 20 = .ok (.ifCond .ge 6, 3) := by decide +kernel
theorem dX4_carried_23 : decode cX4_carried 23 = .ok (.bipush (-2), 2) := by decide +kernel
theorem dX4_carried_25 : decode cX4_carried 25 = .ok (.ireturn, 1) := by decide +kernel
theorem dX4_carried_26 : decode cX4_carried 26 = .ok (.iload 8, 2) := by decide +kernel
theorem dX4_carried_28 : decode cX4_carried 28 = .ok (.bipush 8, 2) := by decide +kernel
theorem dX4_carried_30 : decode cX4_carried 30 = .ok (.if_icmp .lt 6, 3) := by decide +kernel
theorem dX4_carried_33 : decode cX4_carried 33 = .ok (.iload 6, 2) := by decide +kernel
theorem dX4_carried_35 : decode cX4_carried 35 = .ok (.ireturn, 1) := by decide +kernel
theorem dX4_carried_36 : decode cX4_carried 36 = .ok (.iload 8, 2) := by decide +kernel
theorem dX4_carried_38 : decode cX4_carried 38 = .ok (.istore 6, 2) := by decide +kernel
theorem dX4_carried_40 : decode cX4_carried 40 = .ok (.aload_n 0, 1) := by decide +kernel
theorem dX4_carried_41 : decode cX4_carried 41 = .ok (.iload 6, 2) := by decide +kernel
theorem dX4_carried_43 : decode cX4_carried 43 = .ok (.iload 4, 2) := by decide +kernel
theorem dX4_carried_45 : decode cX4_carried 45 = .ok (.iload 5, 2) := by decide +kernel
theorem dX4_carried_47 : decode cX4_carried 47 = .ok (.invokevirtual 69, 3) := by decide +kernel
theorem dX4_carried_50 : decode cX4_carried 50 = .ok (.ifCond .eq 6, 3) := by decide +kernel
theorem dX4_carried_53 : decode cX4_carried 53 = .ok (.iload 6, 2) := by decide +kernel
theorem dX4_carried_55 : decode cX4_carried 55 = .ok (.ireturn, 1) := by decide +kernel
theorem dX4_carried_56 : decode cX4_carried 56 = .ok (.iinc 7 1, 3) := by decide +kernel
theorem dX4_carried_59 : decode cX4_carried 59 = .ok (.goto (-53), 3) := by decide +kernel
theorem dX4_carried_62 : decode cX4_carried 62 = .ok (.iload 6, 2) := by decide +kernel
theorem dX4_carried_64 : decode cX4_carried 64 = .ok (.ireturn, 1) := by decide +kernel
set_option maxRecDepth 20000 in
theorem ggX4_nearestStair_X5_isCell : GoodIn wsX4_nearestStair wsX5_isCell := goodIn_r _ [7] (by decide +kernel) (by decide +kernel)
set_option maxRecDepth 20000 in
theorem gX4_nearestStair_X5_isCell_n38 : GoodIn wsX4_nearestStair (wsX5_isCell) := ggX4_nearestStair_X5_isCell
set_option maxRecDepth 20000 in
theorem ggX4_nearestStair_X4_hasStair : GoodIn wsX4_nearestStair wsX4_hasStair := goodIn_r _ [12, 13, 5, 6, 7, 14, 15, 16, 17] (by decide +kernel) (by decide +kernel)
set_option maxRecDepth 20000 in
theorem gX4_nearestStair_X4_hasStair : GoodIn wsX4_nearestStair (wsV RX4 83 RX4 yX4_hasStair wsX4_hasStair) := goodIn_app (goodIn_of _ (by decide +kernel)) ggX4_nearestStair_X4_hasStair
theorem dX4_nearestStair_0 : decode cX4_nearestStair 0 = .ok (.iload_n 1, 1) := by decide +kernel
theorem dX4_nearestStair_1 : decode cX4_nearestStair 1 = .ok (.invokestatic 38, 3) := by decide +kernel
theorem dX4_nearestStair_4 : decode cX4_nearestStair 4 = .ok (.ifCond .ne 5, 3) := by decide +kernel
theorem dX4_nearestStair_7 : decode cX4_nearestStair 7 = .ok (.iconst (-1), 1) := by decide +kernel
theorem dX4_nearestStair_8 : decode cX4_nearestStair 8 = .ok (.ireturn, 1) := by decide +kernel
theorem dX4_nearestStair_9 : decode cX4_nearestStair 9 = .ok (.iconst (-1), 1) := by decide +kernel
theorem dX4_nearestStair_10 : decode cX4_nearestStair 10 = .ok (.istore_n 3, 1) := by decide +kernel
theorem dX4_nearestStair_11 : decode cX4_nearestStair 11 = .ok (.bipush 8, 2) := by decide +kernel
theorem dX4_nearestStair_13 : decode cX4_nearestStair 13 = .ok (.istore 4, 2) := by decide +kernel
theorem dX4_nearestStair_15 : decode cX4_nearestStair 15 = .ok (.iconst 0, 1) := by decide +kernel
theorem dX4_nearestStair_16 : decode cX4_nearestStair 16 = .ok (.istore 5, 2) := by decide +kernel
theorem dX4_nearestStair_18 : decode cX4_nearestStair 18 = .ok (.iload 5, 2) := by decide +kernel
theorem dX4_nearestStair_20 : decode cX4_nearestStair 20 = .ok (.bipush 8, 2) := by decide +kernel
theorem dX4_nearestStair_22 : decode cX4_nearestStair 22 = .ok (.if_icmp .ge 47, 3) := by decide +kernel
theorem dX4_nearestStair_25 : decode cX4_nearestStair 25 = .ok (.iload 5, 2) := by decide +kernel
theorem dX4_nearestStair_27 : decode cX4_nearestStair 27 = .ok (.iload_n 1, 1) := by decide +kernel
theorem dX4_nearestStair_28 : decode cX4_nearestStair 28 = .ok (.isub, 1) := by decide +kernel
theorem dX4_nearestStair_29 : decode cX4_nearestStair 29 = .ok (.invokestatic 60, 3) := by decide +kernel
theorem dX4_nearestStair_32 : decode cX4_nearestStair 32 = .ok (.istore 6, 2) := by decide +kernel
theorem dX4_nearestStair_34 : decode cX4_nearestStair 34 = .ok (.aload_n 0, 1) := by decide +kernel
theorem dX4_nearestStair_35 : decode cX4_nearestStair 35 = .ok (.iload 5, 2) := by decide +kernel
theorem dX4_nearestStair_37 : decode cX4_nearestStair 37 = .ok (.invokevirtual 83, 3) := by decide +kernel
theorem dX4_nearestStair_40 : decode cX4_nearestStair 40 = .ok (.ifCond .ne 9, 3) := by decide +kernel
theorem dX4_nearestStair_43 : decode cX4_nearestStair 43 = .ok (.iload 5, 2) := by decide +kernel
theorem dX4_nearestStair_45 : decode cX4_nearestStair 45 = .ok (.iload_n 2, 1) := by decide +kernel
theorem dX4_nearestStair_46 : decode cX4_nearestStair 46 = .ok (.if_icmp .ne 17, 3) := by decide +kernel
theorem dX4_nearestStair_49 : decode cX4_nearestStair 49 = .ok (.iload 6, 2) := by decide +kernel
theorem dX4_nearestStair_51 : decode cX4_nearestStair 51 = .ok (.iload 4, 2) := by decide +kernel
theorem dX4_nearestStair_53 : decode cX4_nearestStair 53 = .ok (.if_icmp .ge 10, 3) := by decide +kernel
theorem dX4_nearestStair_56 : decode cX4_nearestStair 56 = .ok (.iload 6, 2) := by decide +kernel
theorem dX4_nearestStair_58 : decode cX4_nearestStair 58 = .ok (.istore 4, 2) := by decide +kernel
theorem dX4_nearestStair_60 : decode cX4_nearestStair 60 = .ok (.iload 5, 2) := by decide +kernel
theorem dX4_nearestStair_62 : decode cX4_nearestStair 62 = .ok (.istore_n 3, 1) := by decide +kernel
theorem dX4_nearestStair_63 : decode cX4_nearestStair 63 = .ok (.iinc 5 1, 3) := by decide +kernel
theorem dX4_nearestStair_66 : decode cX4_nearestStair 66 = .ok (.goto (-48), 3) := by decide +kernel
theorem dX4_nearestStair_69 : decode cX4_nearestStair 69 = .ok (.iload_n 3, 1) := by decide +kernel
theorem dX4_nearestStair_70 : decode cX4_nearestStair 70 = .ok (.ireturn, 1) := by decide +kernel
set_option maxRecDepth 20000 in
theorem ggX5_init_X2_init : GoodIn wsX5_init wsX2_init := goodIn_r _ [30, 31, 2, 3, 32, 33, 34, 69, 70] (by decide +kernel) (by decide +kernel)
set_option maxRecDepth 20000 in
theorem gX5_init_X2_init_n9 : GoodIn wsX5_init (wsX2_init) := ggX5_init_X2_init
set_option maxRecDepth 20000 in
theorem ggX5_init_X4_init : GoodIn wsX5_init wsX4_init := goodIn_r _ [36, 37, 2, 3, 38, 39, 40, 41, 42, 81, 82, 83, 84] (by decide +kernel) (by decide +kernel)
set_option maxRecDepth 20000 in
theorem gX5_init_X4_init_n18 : GoodIn wsX5_init (wsX4_init) := ggX5_init_X4_init
set_option maxRecDepth 20000 in
theorem ggX5_init_X3_init : GoodIn wsX5_init wsX3_init := goodIn_r _ [44, 45, 2, 3, 38, 46, 47, 48, 49, 50, 51, 52, 53, 54, 85, 86, 87, 88, 89, 90, 91, 92, 93] (by decide +kernel) (by decide +kernel)
set_option maxRecDepth 20000 in
theorem gX5_init_X3_init_n25 : GoodIn wsX5_init (wsX3_init) := ggX5_init_X3_init
set_option maxRecDepth 20000 in
theorem ggX5_init_X1_init : GoodIn wsX5_init wsX1_init := goodIn_r _ [56, 57, 2, 3, 58, 94] (by decide +kernel) (by decide +kernel)
set_option maxRecDepth 20000 in
theorem gX5_init_X1_init_n38 : GoodIn wsX5_init (wsX1_init) := ggX5_init_X1_init
set_option maxRecDepth 20000 in
theorem ggX5_init_X0_init : GoodIn wsX5_init wsX0_init := goodIn_r _ [60, 61, 2, 3, 38, 62, 63, 64, 65, 66, 67, 68, 95, 96, 97, 98, 99, 100] (by decide +kernel) (by decide +kernel)
set_option maxRecDepth 20000 in
theorem gX5_init_X0_init_n45 : GoodIn wsX5_init (wsX0_init) := ggX5_init_X0_init
theorem dJ6_bitCount_0f7a4_0 : decode cJ6_bitCount_0f7a4 0 = .ok (.iload_n 0, 1) := by decide +kernel
theorem dJ6_bitCount_0f7a4_1 : decode cJ6_bitCount_0f7a4 1 = .ok (.iload_n 0, 1) := by decide +kernel
theorem dJ6_bitCount_0f7a4_2 : decode cJ6_bitCount_0f7a4 2 = .ok (.iconst 1, 1) := by decide +kernel
theorem dJ6_bitCount_0f7a4_3 : decode cJ6_bitCount_0f7a4 3 = .ok (.iushr, 1) := by decide +kernel
theorem dJ6_bitCount_0f7a4_4 : decode cJ6_bitCount_0f7a4 4 = .ok (.ldc_w 265, 3) := by decide +kernel
theorem dJ6_bitCount_0f7a4_7 : decode cJ6_bitCount_0f7a4 7 = .ok (.iand, 1) := by decide +kernel
theorem dJ6_bitCount_0f7a4_8 : decode cJ6_bitCount_0f7a4 8 = .ok (.isub, 1) := by decide +kernel
theorem dJ6_bitCount_0f7a4_9 : decode cJ6_bitCount_0f7a4 9 = .ok (.istore_n 0, 1) := by decide +kernel
theorem dJ6_bitCount_0f7a4_10 : decode cJ6_bitCount_0f7a4 10 = .ok (.iload_n 0, 1) := by decide +kernel
theorem dJ6_bitCount_0f7a4_11 : decode cJ6_bitCount_0f7a4 11 = .ok (.ldc_w 266, 3) := by decide +kernel
theorem dJ6_bitCount_0f7a4_14 : decode cJ6_bitCount_0f7a4 14 = .ok (.iand, 1) := by decide +kernel
theorem dJ6_bitCount_0f7a4_15 : decode cJ6_bitCount_0f7a4 15 = .ok (.iload_n 0, 1) := by decide +kernel
theorem dJ6_bitCount_0f7a4_16 : decode cJ6_bitCount_0f7a4 16 = .ok (.iconst 2, 1) := by decide +kernel
theorem dJ6_bitCount_0f7a4_17 : decode cJ6_bitCount_0f7a4 17 = .ok (.iushr, 1) := by decide +kernel
theorem dJ6_bitCount_0f7a4_18 : decode cJ6_bitCount_0f7a4 18 = .ok (.ldc_w 266, 3) := by decide +kernel
theorem dJ6_bitCount_0f7a4_21 : decode cJ6_bitCount_0f7a4 21 = .ok (.iand, 1) := by decide +kernel
theorem dJ6_bitCount_0f7a4_22 : decode cJ6_bitCount_0f7a4 22 = .ok (.iadd, 1) := by decide +kernel
theorem dJ6_bitCount_0f7a4_23 : decode cJ6_bitCount_0f7a4 23 = .ok (.istore_n 0, 1) := by decide +kernel
theorem dJ6_bitCount_0f7a4_24 : decode cJ6_bitCount_0f7a4 24 = .ok (.iload_n 0, 1) := by decide +kernel
theorem dJ6_bitCount_0f7a4_25 : decode cJ6_bitCount_0f7a4 25 = .ok (.iload_n 0, 1) := by decide +kernel
theorem dJ6_bitCount_0f7a4_26 : decode cJ6_bitCount_0f7a4 26 = .ok (.iconst 4, 1) := by decide +kernel
theorem dJ6_bitCount_0f7a4_27 : decode cJ6_bitCount_0f7a4 27 = .ok (.iushr, 1) := by decide +kernel
theorem dJ6_bitCount_0f7a4_28 : decode cJ6_bitCount_0f7a4 28 = .ok (.iadd, 1) := by decide +kernel
theorem dJ6_bitCount_0f7a4_29 : decode cJ6_bitCount_0f7a4 29 = .ok (.ldc_w 267, 3) := by decide +kernel
theorem dJ6_bitCount_0f7a4_32 : decode cJ6_bitCount_0f7a4 32 = .ok (.iand, 1) := by decide +kernel
theorem dJ6_bitCount_0f7a4_33 : decode cJ6_bitCount_0f7a4 33 = .ok (.istore_n 0, 1) := by decide +kernel
theorem dJ6_bitCount_0f7a4_34 : decode cJ6_bitCount_0f7a4 34 = .ok (.iload_n 0, 1) := by decide +kernel
theorem dJ6_bitCount_0f7a4_35 : decode cJ6_bitCount_0f7a4 35 = .ok (.iload_n 0, 1) := by decide +kernel
theorem dJ6_bitCount_0f7a4_36 : decode cJ6_bitCount_0f7a4 36 = .ok (.bipush 8, 2) := by decide +kernel
theorem dJ6_bitCount_0f7a4_38 : decode cJ6_bitCount_0f7a4 38 = .ok (.iushr, 1) := by decide +kernel
theorem dJ6_bitCount_0f7a4_39 : decode cJ6_bitCount_0f7a4 39 = .ok (.iadd, 1) := by decide +kernel
theorem dJ6_bitCount_0f7a4_40 : decode cJ6_bitCount_0f7a4 40 = .ok (.istore_n 0, 1) := by decide +kernel
theorem dJ6_bitCount_0f7a4_41 : decode cJ6_bitCount_0f7a4 41 = .ok (.iload_n 0, 1) := by decide +kernel
theorem dJ6_bitCount_0f7a4_42 : decode cJ6_bitCount_0f7a4 42 = .ok (.iload_n 0, 1) := by decide +kernel
theorem dJ6_bitCount_0f7a4_43 : decode cJ6_bitCount_0f7a4 43 = .ok (.bipush 16, 2) := by decide +kernel
theorem dJ6_bitCount_0f7a4_45 : decode cJ6_bitCount_0f7a4 45 = .ok (.iushr, 1) := by decide +kernel
theorem dJ6_bitCount_0f7a4_46 : decode cJ6_bitCount_0f7a4 46 = .ok (.iadd, 1) := by decide +kernel
theorem dJ6_bitCount_0f7a4_47 : decode cJ6_bitCount_0f7a4 47 = .ok (.istore_n 0, 1) := by decide +kernel
theorem dJ6_bitCount_0f7a4_48 : decode cJ6_bitCount_0f7a4 48 = .ok (.iload_n 0, 1) := by decide +kernel
theorem dJ6_bitCount_0f7a4_49 : decode cJ6_bitCount_0f7a4 49 = .ok (.bipush 63, 2) := by decide +kernel
theorem dJ6_bitCount_0f7a4_51 : decode cJ6_bitCount_0f7a4 51 = .ok (.iand, 1) := by decide +kernel
theorem dJ6_bitCount_0f7a4_52 : decode cJ6_bitCount_0f7a4 52 = .ok (.ireturn, 1) := by decide +kernel
theorem dJ9_floorMod_7cf53_0 : decode cJ9_floorMod_7cf53 0 = .ok (.iload_n 0, 1) := by decide +kernel
theorem dJ9_floorMod_7cf53_1 : decode cJ9_floorMod_7cf53 1 = .ok (.iload_n 1, 1) := by decide +kernel
theorem dJ9_floorMod_7cf53_2 : decode cJ9_floorMod_7cf53 2 = .ok (.irem, 1) := by decide +kernel
theorem dJ9_floorMod_7cf53_3 : decode cJ9_floorMod_7cf53 3 = .ok (.istore_n 2, 1) := by decide +kernel
theorem dJ9_floorMod_7cf53_4 : decode cJ9_floorMod_7cf53 4 = .ok (.iload_n 0, 1) := by decide +kernel
theorem dJ9_floorMod_7cf53_5 : decode cJ9_floorMod_7cf53 5 = .ok (.iload_n 1, 1) := by decide +kernel
theorem dJ9_floorMod_7cf53_6 : decode cJ9_floorMod_7cf53 6 = .ok (.ixor, 1) := by decide +kernel
theorem dJ9_floorMod_7cf53_7 : decode cJ9_floorMod_7cf53 7 = .ok (.ifCond .ge 11, 3) := by decide +kernel
theorem dJ9_floorMod_7cf53_10 : decode cJ9_floorMod_7cf53 10 = .ok (.iload_n 2, 1) := by decide +kernel
theorem dJ9_floorMod_7cf53_11 : decode cJ9_floorMod_7cf53 11 = .ok (.ifCond .eq 7, 3) := by decide +kernel
theorem dJ9_floorMod_7cf53_14 : decode cJ9_floorMod_7cf53 14 = .ok (.iload_n 2, 1) := by decide +kernel
theorem dJ9_floorMod_7cf53_15 : decode cJ9_floorMod_7cf53 15 = .ok (.iload_n 1, 1) := by decide +kernel
theorem dJ9_floorMod_7cf53_16 : decode cJ9_floorMod_7cf53 16 = .ok (.iadd, 1) := by decide +kernel
theorem dJ9_floorMod_7cf53_17 : decode cJ9_floorMod_7cf53 17 = .ok (.ireturn, 1) := by decide +kernel
theorem dJ9_floorMod_7cf53_18 : decode cJ9_floorMod_7cf53 18 = .ok (.iload_n 2, 1) := by decide +kernel
theorem dJ9_floorMod_7cf53_19 : decode cJ9_floorMod_7cf53 19 = .ok (.ireturn, 1) := by decide +kernel
theorem dJ9_abs_0f7a4_0 : decode cJ9_abs_0f7a4 0 = .ok (.iload_n 0, 1) := by decide +kernel
theorem dJ9_abs_0f7a4_1 : decode cJ9_abs_0f7a4 1 = .ok (.ifCond .ge 8, 3) := by decide +kernel
theorem dJ9_abs_0f7a4_4 : decode cJ9_abs_0f7a4 4 = .ok (.iload_n 0, 1) := by decide +kernel
theorem dJ9_abs_0f7a4_5 : decode cJ9_abs_0f7a4 5 = .ok (.ineg, 1) := by decide +kernel
theorem dJ9_abs_0f7a4_6 : decode cJ9_abs_0f7a4 6 = .ok (.goto 4, 3) := by decide +kernel
theorem dJ9_abs_0f7a4_9 : decode cJ9_abs_0f7a4 9 = .ok (.iload_n 0, 1) := by decide +kernel
theorem dJ9_abs_0f7a4_10 : decode cJ9_abs_0f7a4 10 = .ok (.ireturn, 1) := by decide +kernel
theorem dJ9_max_7cf53_0 : decode cJ9_max_7cf53 0 = .ok (.iload_n 0, 1) := by decide +kernel
theorem dJ9_max_7cf53_1 : decode cJ9_max_7cf53 1 = .ok (.iload_n 1, 1) := by decide +kernel
theorem dJ9_max_7cf53_2 : decode cJ9_max_7cf53 2 = .ok (.if_icmp .lt 7, 3) := by decide +kernel
theorem dJ9_max_7cf53_5 : decode cJ9_max_7cf53 5 = .ok (.iload_n 0, 1) := by decide +kernel
theorem dJ9_max_7cf53_6 : decode cJ9_max_7cf53 6 = .ok (.goto 4, 3) := by decide +kernel
theorem dJ9_max_7cf53_9 : decode cJ9_max_7cf53 9 = .ok (.iload_n 1, 1) := by decide +kernel
theorem dJ9_max_7cf53_10 : decode cJ9_max_7cf53 10 = .ok (.ireturn, 1) := by decide +kernel
theorem dJ9_min_7cf53_0 : decode cJ9_min_7cf53 0 = .ok (.iload_n 0, 1) := by decide +kernel
theorem dJ9_min_7cf53_1 : decode cJ9_min_7cf53 1 = .ok (.iload_n 1, 1) := by decide +kernel
theorem dJ9_min_7cf53_2 : decode cJ9_min_7cf53 2 = .ok (.if_icmp .gt 7, 3) := by decide +kernel
theorem dJ9_min_7cf53_5 : decode cJ9_min_7cf53 5 = .ok (.iload_n 0, 1) := by decide +kernel
theorem dJ9_min_7cf53_6 : decode cJ9_min_7cf53 6 = .ok (.goto 4, 3) := by decide +kernel
theorem dJ9_min_7cf53_9 : decode cJ9_min_7cf53 9 = .ok (.iload_n 1, 1) := by decide +kernel
theorem dJ9_min_7cf53_10 : decode cJ9_min_7cf53 10 = .ok (.ireturn, 1) := by decide +kernel
abbrev vwCl : List vw_C := [(RX0, TX0, 6), (RX1, TX1, 1), (RX2, TX2, 2), (RX3, TX3, 9), (RX4, TX4, 4), (RX5, TX5, 10), (RX6, TX6, 32)]

theorem dX4_show_13 : decode cX4_show 13 = .ok (.ifCond .eq 11, 3) := by decide +kernel
theorem dX4_show_16 : decode cX4_show 16 = .ok (.aload_n 0, 1) := by decide +kernel
theorem dX4_show_17 : decode cX4_show 17 = .ok (.iload_n 3, 1) := by decide +kernel
theorem dX4_show_18 : decode cX4_show 18 = .ok (.invokevirtual 97, 3) := by decide +kernel
theorem dX4_show_21 : decode cX4_show 21 = .ok (.ifCond .ne 5, 3) := by decide +kernel
theorem dX4_show_24 : decode cX4_show 24 = .ok (.iconst (-1), 1) := by decide +kernel
theorem dX4_show_25 : decode cX4_show 25 = .ok (.ireturn, 1) := by decide +kernel
theorem dX4_show_26 : decode cX4_show 26 = .ok (.iload_n 1, 1) := by decide +kernel
theorem dX4_show_27 : decode cX4_show 27 = .ok (.iload_n 2, 1) := by decide +kernel
theorem dX4_show_28 : decode cX4_show 28 = .ok (.if_icmp .ne 6, 3) := by decide +kernel
theorem dX4_show_31 : decode cX4_show 31 = .ok (.bipush (-2), 2) := by decide +kernel
theorem dX4_show_33 : decode cX4_show 33 = .ok (.ireturn, 1) := by decide +kernel
theorem dX4_show_34 : decode cX4_show 34 = .ok (.iconst 1, 1) := by decide +kernel
theorem dX4_show_35 : decode cX4_show 35 = .ok (.iload_n 3, 1) := by decide +kernel
theorem dX4_show_36 : decode cX4_show 36 = .ok (.ishl, 1) := by decide +kernel
theorem dX4_show_37 : decode cX4_show 37 = .ok (.istore 4, 2) := by decide +kernel
theorem dX4_show_39 : decode cX4_show 39 = .ok (.aload_n 0, 1) := by decide +kernel
theorem dX4_show_40 : decode cX4_show 40 = .ok (.getfield 34, 3) := by decide +kernel
theorem dX4_show_43 : decode cX4_show 43 = .ok (.getfield 116, 3) := by decide +kernel
theorem dX4_show_46 : decode cX4_show 46 = .ok (.iload_n 1, 1) := by decide +kernel
theorem dX4_show_47 : decode cX4_show 47 = .ok (.iaload, 1) := by decide +kernel
theorem dX4_show_48 : decode cX4_show 48 = .ok (.aload_n 0, 1) := by decide +kernel
theorem dX4_show_49 : decode cX4_show 49 = .ok (.getfield 34, 3) := by decide +kernel
theorem dX4_show_52 : decode cX4_show 52 = .ok (.getfield 116, 3) := by decide +kernel
theorem dX4_show_55 : decode cX4_show 55 = .ok (.iload_n 2, 1) := by decide +kernel
theorem dX4_show_56 : decode cX4_show 56 = .ok (.iaload, 1) := by decide +kernel
theorem dX4_show_57 : decode cX4_show 57 = .ok (.if_icmp .ne 7, 3) := by decide +kernel
theorem dX4_show_60 : decode cX4_show 60 = .ok (.iconst 1, 1) := by decide +kernel
theorem dX4_show_61 : decode cX4_show 61 = .ok (.goto 4, 3) := by decide +kernel
theorem dX4_show_64 : decode cX4_show 64 = .ok (.iconst 0, 1) := by decide +kernel
theorem dX4_show_65 : decode cX4_show 65 = .ok (.istore 5, 2) := by decide +kernel
theorem dX4_show_67 : decode cX4_show 67 = .ok (.iload 5, 2) := by decide +kernel
theorem dX4_show_69 : decode cX4_show 69 = .ok (.ifCond .eq 33, 3) := by decide +kernel
theorem dX4_show_72 : decode cX4_show 72 = .ok (.aload_n 0, 1) := by decide +kernel
theorem dX4_show_73 : decode cX4_show 73 = .ok (.aload_n 0, 1) := by decide +kernel
theorem dX4_show_74 : decode cX4_show 74 = .ok (.getfield 34, 3) := by decide +kernel
theorem dX4_show_77 : decode cX4_show 77 = .ok (.iload_n 2, 1) := by decide +kernel
theorem dX4_show_78 : decode cX4_show 78 = .ok (.invokevirtual 123, 3) := by decide +kernel
theorem dX4_show_81 : decode cX4_show 81 = .ok (.iload 4, 2) := by decide +kernel
theorem dX4_show_83 : decode cX4_show 83 = .ok (.iand, 1) := by decide +kernel
theorem dX4_show_84 : decode cX4_show 84 = .ok (.ifCond .eq 18, 3) := by decide +kernel
theorem dX4_show_87 : decode cX4_show 87 = .ok (.aload_n 0, 1) := by decide +kernel
theorem dX4_show_88 : decode cX4_show 88 = .ok (.getfield 34, 3) := by decide +kernel
theorem dX4_show_91 : decode cX4_show 91 = .ok (.getfield 120, 3) := by decide +kernel
theorem dX4_show_94 : decode cX4_show 94 = .ok (.iload_n 1, 1) := by decide +kernel
theorem dX4_show_95 : decode cX4_show 95 = .ok (.iaload, 1) := by decide +kernel
theorem dX4_show_96 : decode cX4_show 96 = .ok (.iload 4, 2) := by decide +kernel
theorem dX4_show_98 : decode cX4_show 98 = .ok (.iand, 1) := by decide +kernel
theorem dX4_show_99 : decode cX4_show 99 = .ok (.ifCond .eq 6, 3) := by decide +kernel
theorem dX4_show_102 : decode cX4_show 102 = .ok (.bipush (-3), 2) := by decide +kernel
theorem dX4_show_104 : decode cX4_show 104 = .ok (.ireturn, 1) := by decide +kernel
theorem dX4_show_105 : decode cX4_show 105 = .ok (.aload_n 0, 1) := by decide +kernel
theorem dX4_show_106 : decode cX4_show 106 = .ok (.invokevirtual 145, 3) := by decide +kernel
theorem dX4_show_109 : decode cX4_show 109 = .ok (.aload_n 0, 1) := by decide +kernel
theorem dX4_show_110 : decode cX4_show 110 = .ok (.getfield 34, 3) := by decide +kernel
theorem dX4_show_113 : decode cX4_show 113 = .ok (.getfield 120, 3) := by decide +kernel
theorem dX4_show_116 : decode cX4_show 116 = .ok (.iload_n 1, 1) := by decide +kernel
theorem dX4_show_117 : decode cX4_show 117 = .ok (.dup2, 1) := by decide +kernel
theorem dX4_show_118 : decode cX4_show 118 = .ok (.iaload, 1) := by decide +kernel
theorem dX4_show_119 : decode cX4_show 119 = .ok (.iload 4, 2) := by decide +kernel
theorem dX4_show_121 : decode cX4_show 121 = .ok (.ior, 1) := by decide +kernel
theorem dX4_show_122 : decode cX4_show 122 = .ok (.iastore, 1) := by decide +kernel
theorem dX4_show_123 : decode cX4_show 123 = .ok (.aload_n 0, 1) := by decide +kernel
theorem dX4_show_124 : decode cX4_show 124 = .ok (.getfield 34, 3) := by decide +kernel
theorem dX4_show_127 : decode cX4_show 127 = .ok (.getfield 120, 3) := by decide +kernel
theorem dX4_show_130 : decode cX4_show 130 = .ok (.iload_n 1, 1) := by decide +kernel
theorem dX4_show_131 : decode cX4_show 131 = .ok (.iaload, 1) := by decide +kernel
theorem dX4_show_132 : decode cX4_show 132 = .ok (.invokestatic 152, 3) := by decide +kernel
theorem dX4_show_135 : decode cX4_show 135 = .ok (.ireturn, 1) := by decide +kernel
set_option maxRecDepth 20000 in
theorem ggX4_sell_X4_isMule : GoodIn wsX4_sell wsX4_isMule := goodIn_r _ [6, 7, 18, 19, 20, 21, 22, 23, 24, 25, 26, 27, 28, 29, 30, 31] (by decide +kernel) (by decide +kernel)
set_option maxRecDepth 20000 in
theorem gX4_sell_X4_isMule : GoodIn wsX4_sell (wsV RX4 113 RX4 yX4_isMule wsX4_isMule) := goodIn_app (goodIn_of _ (by decide +kernel)) ggX4_sell_X4_isMule
set_option maxRecDepth 20000 in
theorem ggX4_sell_X4_rememberAct : GoodIn wsX4_sell wsX4_rememberAct := goodIn_r _ [11, 12, 13, 1, 14, 15, 16, 5, 17, 18, 19, 20, 21, 22, 23, 24, 25, 26, 27, 28, 29, 30, 31, 32, 33, 34, 35, 36] (by decide +kernel) (by decide +kernel)
set_option maxRecDepth 20000 in
theorem gX4_sell_X4_rememberAct : GoodIn wsX4_sell (wsV RX4 145 RX4 yX4_rememberAct wsX4_rememberAct) := goodIn_app (goodIn_of _ (by decide +kernel)) ggX4_sell_X4_rememberAct
theorem dX4_sell_0 : decode cX4_sell 0 = .ok (.aload_n 0, 1) := by decide +kernel
theorem dX4_sell_1 : decode cX4_sell 1 = .ok (.iload_n 1, 1) := by decide +kernel
theorem dX4_sell_2 : decode cX4_sell 2 = .ok (.invokevirtual 113, 3) := by decide +kernel
theorem dX4_sell_5 : decode cX4_sell 5 = .ok (.ifCond .ne 5, 3) := by decide +kernel
theorem dX4_sell_8 : decode cX4_sell 8 = .ok (.iconst (-1), 1) := by decide +kernel
theorem dX4_sell_9 : decode cX4_sell 9 = .ok (.ireturn, 1) := by decide +kernel
theorem dX4_sell_10 : decode cX4_sell 10 = .ok (.aload_n 0, 1) := by decide +kernel
theorem dX4_sell_11 : decode cX4_sell 11 = .ok (.getfield 34, 3) := by decide +kernel
theorem dX4_sell_14 : decode cX4_sell 14 = .ok (.getfield 117, 3) := by decide +kernel
theorem dX4_sell_17 : decode cX4_sell 17 = .ok (.iload_n 1, 1) := by decide +kernel
theorem dX4_sell_18 : decode cX4_sell 18 = .ok (.iaload, 1) := by decide +kernel
theorem dX4_sell_19 : decode cX4_sell 19 = .ok (.istore_n 2, 1) := by decide +kernel
theorem dX4_sell_20 : decode cX4_sell 20 = .ok (.iload_n 2, 1) := by decide +kernel
theorem dX4_sell_21 : decode cX4_sell 21 = .ok (.iconst 3, 1) := by decide +kernel
theorem dX4_sell_22 : decode cX4_sell 22 = .ok (.if_icmp .ne 6, 3) := by decide +kernel
theorem dX4_sell_25 : decode cX4_sell 25 = .ok (.bipush (-3), 2) := by decide +kernel
theorem dX4_sell_27 : decode cX4_sell 27 = .ok (.ireturn, 1) := by decide +kernel
theorem dX4_sell_28 : decode cX4_sell 28 = .ok (.aload_n 0, 1) := by decide +kernel
theorem dX4_sell_29 : decode cX4_sell 29 = .ok (.invokevirtual 145, 3) := by decide +kernel
theorem dX4_sell_32 : decode cX4_sell 32 = .ok (.aload_n 0, 1) := by decide +kernel
theorem dX4_sell_33 : decode cX4_sell 33 = .ok (.getfield 34, 3) := by decide +kernel
theorem dX4_sell_36 : decode cX4_sell 36 = .ok (.getfield 117, 3) := by decide +kernel
theorem dX4_sell_39 : decode cX4_sell 39 = .ok (.iload_n 1, 1) := by decide +kernel
theorem dX4_sell_40 : decode cX4_sell 40 = .ok (.iconst 3, 1) := by decide +kernel
theorem dX4_sell_41 : decode cX4_sell 41 = .ok (.iastore, 1) := by decide +kernel
theorem dX4_sell_42 : decode cX4_sell 42 = .ok (.iload_n 2, 1) := by decide +kernel
theorem dX4_sell_43 : decode cX4_sell 43 = .ok (.ireturn, 1) := by decide +kernel
set_option maxRecDepth 20000 in
theorem ggX4_forget_X4_isMule : GoodIn wsX4_forget wsX4_isMule := goodIn_r _ [6, 7, 25, 26, 27, 28, 29, 30, 31, 32, 33, 34, 35, 36, 37, 38] (by decide +kernel) (by decide +kernel)
set_option maxRecDepth 20000 in
theorem gX4_forget_X4_isMule : GoodIn wsX4_forget (wsV RX4 113 RX4 yX4_isMule wsX4_isMule) := goodIn_app (goodIn_of _ (by decide +kernel)) ggX4_forget_X4_isMule
set_option maxRecDepth 20000 in
theorem ggX4_forget_X4_rememberAct : GoodIn wsX4_forget wsX4_rememberAct := goodIn_r _ [11, 12, 13, 1, 14, 15, 16, 5, 17, 25, 26, 27, 28, 29, 30, 31, 32, 33, 34, 35, 36, 37, 38, 39, 40, 41, 42, 43] (by decide +kernel) (by decide +kernel)
set_option maxRecDepth 20000 in
theorem gX4_forget_X4_rememberAct : GoodIn wsX4_forget (wsV RX4 145 RX4 yX4_rememberAct wsX4_rememberAct) := goodIn_app (goodIn_of _ (by decide +kernel)) ggX4_forget_X4_rememberAct
set_option maxRecDepth 20000 in
theorem ggX4_forget_J6_bitCount_0f7a4 : GoodIn wsX4_forget wsJ6_bitCount_0f7a4 := goodIn_r _ [21, 22, 23, 24] (by decide +kernel) (by decide +kernel)
set_option maxRecDepth 20000 in
theorem gX4_forget_J6_bitCount_0f7a4 : GoodIn wsX4_forget (va_wsS RX4 152 yJ6_bitCount_0f7a4 wsJ6_bitCount_0f7a4) := goodIn_app (goodIn_of _ (by decide +kernel)) ggX4_forget_J6_bitCount_0f7a4
theorem dX4_forget_0 : decode cX4_forget 0 = .ok (.aload_n 0, 1) := by decide +kernel
theorem dX4_forget_1 : decode cX4_forget 1 = .ok (.iload_n 1, 1) := by decide +kernel
theorem dX4_forget_2 : decode cX4_forget 2 = .ok (.invokevirtual 113, 3) := by decide +kernel
theorem dX4_forget_5 : decode cX4_forget 5 = .ok (.ifCond .ne 5, 3) := by decide +kernel
theorem dX4_forget_8 : decode cX4_forget 8 = .ok (.iconst (-1), 1) := by decide +kernel
theorem dX4_forget_9 : decode cX4_forget 9 = .ok (.ireturn, 1) := by decide +kernel
theorem dX4_forget_10 : decode cX4_forget 10 = .ok (.aload_n 0, 1) := by decide +kernel
theorem dX4_forget_11 : decode cX4_forget 11 = .ok (.getfield 34, 3) := by decide +kernel
theorem dX4_forget_14 : decode cX4_forget 14 = .ok (.getfield 120, 3) := by decide +kernel
theorem dX4_forget_17 : decode cX4_forget 17 = .ok (.iload_n 1, 1) := by decide +kernel
theorem dX4_forget_18 : decode cX4_forget 18 = .ok (.iaload, 1) := by decide +kernel
theorem dX4_forget_19 : decode cX4_forget 19 = .ok (.istore_n 2, 1) := by decide +kernel
theorem dX4_forget_20 : decode cX4_forget 20 = .ok (.iload_n 2, 1) := by decide +kernel
theorem dX4_forget_21 : decode cX4_forget 21 = .ok (.ifCond .ne 6, 3) := by decide +kernel
theorem dX4_forget_24 : decode cX4_forget 24 = .ok (.bipush (-3), 2) := by decide +kernel
theorem dX4_forget_26 : decode cX4_forget 26 = .ok (.ireturn, 1) := by decide +kernel
theorem dX4_forget_27 : decode cX4_forget 27 = .ok (.aload_n 0, 1) := by decide +kernel
theorem dX4_forget_28 : decode cX4_forget 28 = .ok (.invokevirtual 145, 3) := by decide +kernel
theorem dX4_forget_31 : decode cX4_forget 31 = .ok (.aload_n 0, 1) := by decide +kernel
theorem dX4_forget_32 : decode cX4_forget 32 = .ok (.getfield 34, 3) := by decide +kernel
theorem dX4_forget_35 : decode cX4_forget 35 = .ok (.getfield 120, 3) := by decide +kernel
theorem dX4_forget_38 : decode cX4_forget 38 = .ok (.iload_n 1, 1) := by decide +kernel
theorem dX4_forget_39 : decode cX4_forget 39 = .ok (.iconst 0, 1) := by decide +kernel
theorem dX4_forget_40 : decode cX4_forget 40 = .ok (.iastore, 1) := by decide +kernel
theorem dX4_forget_41 : decode cX4_forget 41 = .ok (.iload_n 2, 1) := by decide +kernel
theorem dX4_forget_42 : decode cX4_forget 42 = .ok (.invokestatic 152, 3) := by decide +kernel
theorem dX4_forget_45 : decode cX4_forget 45 = .ok (.ireturn, 1) := by decide +kernel
set_option maxRecDepth 20000 in
theorem ggX4_undo_X4_copyState : GoodIn wsX4_undo wsX4_copyState := goodIn_r _ [8, 23, 24, 25, 26, 27] (by decide +kernel) (by decide +kernel)
set_option maxRecDepth 20000 in
theorem gX4_undo_X4_copyState : GoodIn wsX4_undo (va_wsS RX4 157 yX4_copyState wsX4_copyState) := goodIn_app (goodIn_of _ (by decide +kernel)) ggX4_undo_X4_copyState
theorem dX4_undo_0 : decode cX4_undo 0 = .ok (.aload_n 0, 1) := by decide +kernel
theorem dX4_undo_1 : decode cX4_undo 1 = .ok (.getfield 48, 3) := by decide +kernel
theorem dX4_undo_4 : decode cX4_undo 4 = .ok (.ifCond .ne 6, 3) := by decide +kernel
theorem dX4_undo_7 : decode cX4_undo 7 = .ok (.bipush (-3), 2) := by decide +kernel
theorem dX4_undo_9 : decode cX4_undo 9 = .ok (.ireturn, 1) := by decide +kernel
theorem dX4_undo_10 : decode cX4_undo 10 = .ok (.aload_n 0, 1) := by decide +kernel
theorem dX4_undo_11 : decode cX4_undo 11 = .ok (.dup, 1) := by decide +kernel
theorem dX4_undo_12 : decode cX4_undo 12 = .ok (.getfield 48, 3) := by decide +kernel
theorem dX4_undo_15 : decode cX4_undo 15 = .ok (.iconst 1, 1) := by decide +kernel
theorem dX4_undo_16 : decode cX4_undo 16 = .ok (.isub, 1) := by decide +kernel
theorem dX4_undo_17 : decode cX4_undo 17 = .ok (.putfield 48, 3) := by decide +kernel
theorem dX4_undo_20 : decode cX4_undo 20 = .ok (.aload_n 0, 1) := by decide +kernel
theorem dX4_undo_21 : decode cX4_undo 21 = .ok (.getfield 41, 3) := by decide +kernel
theorem dX4_undo_24 : decode cX4_undo 24 = .ok (.aload_n 0, 1) := by decide +kernel
theorem dX4_undo_25 : decode cX4_undo 25 = .ok (.getfield 45, 3) := by decide +kernel
theorem dX4_undo_28 : decode cX4_undo 28 = .ok (.aload_n 0, 1) := by decide +kernel
theorem dX4_undo_29 : decode cX4_undo 29 = .ok (.getfield 48, 3) := by decide +kernel
theorem dX4_undo_32 : decode cX4_undo 32 = .ok (.iadd, 1) := by decide +kernel
theorem dX4_undo_33 : decode cX4_undo 33 = .ok (.bipush 14, 2) := by decide +kernel
theorem dX4_undo_35 : decode cX4_undo 35 = .ok (.irem, 1) := by decide +kernel
theorem dX4_undo_36 : decode cX4_undo 36 = .ok (.aaload, 1) := by decide +kernel
theorem dX4_undo_37 : decode cX4_undo 37 = .ok (.aload_n 0, 1) := by decide +kernel
theorem dX4_undo_38 : decode cX4_undo 38 = .ok (.getfield 34, 3) := by decide +kernel
theorem dX4_undo_41 : decode cX4_undo 41 = .ok (.invokestatic 157, 3) := by decide +kernel
theorem dX4_undo_44 : decode cX4_undo 44 = .ok (.aload_n 0, 1) := by decide +kernel
theorem dX4_undo_45 : decode cX4_undo 45 = .ok (.getfield 48, 3) := by decide +kernel
theorem dX4_undo_48 : decode cX4_undo 48 = .ok (.ireturn, 1) := by decide +kernel
set_option maxRecDepth 20000 in
theorem ggX4_way_X4_isMule : GoodIn wsX4_way wsX4_isMule := goodIn_r _ [7, 8, 53, 54, 55, 56, 57, 58, 59, 60, 61, 62, 63, 64, 65, 66] (by decide +kernel) (by decide +kernel)
set_option maxRecDepth 20000 in
theorem gX4_way_X4_isMule : GoodIn wsX4_way (wsV RX4 113 RX4 yX4_isMule wsX4_isMule) := goodIn_app (goodIn_of _ (by decide +kernel)) ggX4_way_X4_isMule
set_option maxRecDepth 20000 in
theorem ggX4_way_X4_isStone : GoodIn wsX4_way wsX4_isStone := goodIn_r _ [11] (by decide +kernel) (by decide +kernel)
set_option maxRecDepth 20000 in
theorem gX4_way_X4_isStone : GoodIn wsX4_way (va_wsS RX4 161 yX4_isStone wsX4_isStone) := goodIn_app (goodIn_of _ (by decide +kernel)) ggX4_way_X4_isStone
set_option maxRecDepth 20000 in
theorem ggX4_way_X0_all : GoodIn wsX4_way wsX0_all := goodIn_r _ [15, 16, 72, 73, 74, 75] (by decide +kernel) (by decide +kernel)
set_option maxRecDepth 20000 in
theorem gX4_way_X0_all_n164 : GoodIn wsX4_way (wsX0_all) := ggX4_way_X0_all
set_option maxRecDepth 20000 in
theorem ggX4_way_X4_known : GoodIn wsX4_way wsX4_known := goodIn_r _ [20, 3, 4, 5, 6, 7, 8, 21, 22, 23, 24, 1, 12, 13, 14, 15, 16, 25, 26, 27, 67, 68, 69, 70, 71, 53, 54, 55, 56, 57, 58, 59, 60, 61, 62, 63, 64, 65, 66, 72, 73, 74, 75] (by decide +kernel) (by decide +kernel)
set_option maxRecDepth 20000 in
theorem gX4_way_X4_known : GoodIn wsX4_way (wsV RX4 123 RX4 yX4_known wsX4_known) := goodIn_app (goodIn_of _ (by decide +kernel)) ggX4_way_X4_known
set_option maxRecDepth 20000 in
theorem ggX4_way_X4_spread : GoodIn wsX4_way wsX4_spread := goodIn_r _ [31, 2, 32, 33, 34, 6, 35, 1, 36, 37, 38, 39, 3, 4, 5, 7, 8, 9, 10, 11, 40, 41, 42, 43, 44, 13, 45, 46, 16, 47, 48, 49, 50, 51, 52, 53, 54, 55, 56, 57, 58, 59, 60, 61, 62, 63, 64, 65, 66, 72, 73, 74, 75, 67, 68, 69, 70, 71] (by decide +kernel) (by decide +kernel)
set_option maxRecDepth 20000 in
theorem gX4_way_X4_spread : GoodIn wsX4_way (wsV RX4 167 RX4 yX4_spread wsX4_spread) := goodIn_app (goodIn_of _ (by decide +kernel)) ggX4_way_X4_spread
theorem dX4_way_0 : decode cX4_way 0 = .ok (.aload_n 0, 1) := by decide +kernel
theorem dX4_way_1 : decode cX4_way 1 = .ok (.iload_n 1, 1) := by decide +kernel
theorem dX4_way_2 : decode cX4_way 2 = .ok (.invokevirtual 113, 3) := by decide +kernel
theorem dX4_way_5 : decode cX4_way 5 = .ok (.ifCond .eq 10, 3) := by decide +kernel
theorem dX4_way_8 : decode cX4_way 8 = .ok (.iload_n 2, 1) := by decide +kernel
theorem dX4_way_9 : decode cX4_way 9 = .ok (.invokestatic 161, 3) := by decide +kernel
theorem dX4_way_12 : decode cX4_way 12 = .ok (.ifCond .ne 5, 3) := by decide +kernel
theorem dX4_way_15 : decode cX4_way 15 = .ok (.iconst (-1), 1) := by decide +kernel
theorem dX4_way_16 : decode cX4_way 16 = .ok (.ireturn, 1) := by decide +kernel
theorem dX4_way_17 : decode cX4_way 17 = .ok (.iload_n 3, 1) := by decide +kernel
theorem dX4_way_18 : decode cX4_way 18 = .ok (.ifCond .eq 13, 3) := by decide +kernel
theorem dX4_way_21 : decode cX4_way 21 = .ok (.aload_n 0, 1) := by decide +kernel
theorem dX4_way_22 : decode cX4_way 22 = .ok (.getfield 19, 3) := by decide +kernel
theorem dX4_way_25 : decode cX4_way 25 = .ok (.invokevirtual 164, 3) := by decide +kernel
theorem dX4_way_28 : decode cX4_way 28 = .ok (.goto 12, 3) := by decide +kernel
theorem dX4_way_31 : decode cX4_way 31 = .ok (.aload_n 0, 1) := by decide +kernel
theorem dX4_way_32 : decode cX4_way 32 = .ok (.aload_n 0, 1) := by decide +kernel
theorem dX4_way_33 : decode cX4_way 33 = .ok (.getfield 34, 3) := by decide +kernel
theorem dX4_way_36 : decode cX4_way 36 = .ok (.iload_n 1, 1) := by decide +kernel
theorem dX4_way_37 : decode cX4_way 37 = .ok (.invokevirtual 123, 3) := by decide +kernel
theorem dX4_way_40 : decode cX4_way 40 = .ok (.istore 4, 2) := by decide +kernel
theorem dX4_way_42 : decode cX4_way 42 = .ok (.iconst 1, 1) := by decide +kernel
theorem dX4_way_43 : decode cX4_way 43 = .ok (.aload_n 0, 1) := by decide +kernel
theorem dX4_way_44 : decode cX4_way 44 = .ok (.getfield 34, 3) := by decide +kernel
theorem dX4_way_47 : decode cX4_way 47 = .ok (.getfield 116, 3) := by decide +kernel
theorem dX4_way_50 : decode cX4_way 50 = .ok (.iload_n 1, 1) := by decide +kernel
theorem dX4_way_51 : decode cX4_way 51 = .ok (.iaload, 1) := by decide +kernel
theorem dX4_way_52 : decode cX4_way 52 = .ok (.ishl, 1) := by decide +kernel
theorem dX4_way_53 : decode cX4_way 53 = .ok (.istore 5, 2) := by decide +kernel
theorem dX4_way_55 : decode cX4_way 55 = .ok (.iconst 0, 1) := by decide +kernel
theorem dX4_way_56 : decode cX4_way 56 = .ok (.istore 6, 2) := by decide +kernel
theorem dX4_way_58 : decode cX4_way 58 = .ok (.iload 6, 2) := by decide +kernel
theorem dX4_way_60 : decode cX4_way 60 = .ok (.bipush 12, 2) := by decide +kernel
theorem dX4_way_62 : decode cX4_way 62 = .ok (.if_icmp .gt 42, 3) := by decide +kernel
theorem dX4_way_65 : decode cX4_way 65 = .ok (.iload 5, 2) := by decide +kernel
theorem dX4_way_67 : decode cX4_way 67 = .ok (.iload_n 2, 1) := by decide +kernel
theorem dX4_way_68 : decode cX4_way 68 = .ok (.ishr, 1) := by decide +kernel
theorem dX4_way_69 : decode cX4_way 69 = .ok (.iconst 1, 1) := by decide +kernel
theorem dX4_way_70 : decode cX4_way 70 = .ok (.iand, 1) := by decide +kernel
theorem dX4_way_71 : decode cX4_way 71 = .ok (.ifCond .eq 6, 3) := by decide +kernel
theorem dX4_way_74 : decode cX4_way 74 = .ok (.iload 6, 2) := by decide +kernel
theorem dX4_way_76 : decode cX4_way 76 = .ok (.ireturn, 1) := by decide +kernel
theorem dX4_way_77 : decode cX4_way 77 = .ok (.aload_n 0, 1) := by decide +kernel
theorem dX4_way_78 : decode cX4_way 78 = .ok (.iload_n 1, 1) := by decide +kernel
theorem dX4_way_79 : decode cX4_way 79 = .ok (.iload 5, 2) := by decide +kernel
theorem dX4_way_81 : decode cX4_way 81 = .ok (.aload_n 0, 1) := by decide +kernel
theorem dX4_way_82 : decode cX4_way 82 = .ok (.getfield 34, 3) := by decide +kernel
theorem dX4_way_85 : decode cX4_way 85 = .ok (.getfield 86, 3) := by decide +kernel
theorem dX4_way_88 : decode cX4_way 88 = .ok (.iload 6, 2) := by decide +kernel
theorem dX4_way_90 : decode cX4_way 90 = .ok (.iadd, 1) := by decide +kernel
theorem dX4_way_91 : decode cX4_way 91 = .ok (.iload 4, 2) := by decide +kernel
theorem dX4_way_93 : decode cX4_way 93 = .ok (.invokevirtual 167, 3) := by decide +kernel
theorem dX4_way_96 : decode cX4_way 96 = .ok (.istore 5, 2) := by decide +kernel
theorem dX4_way_98 : decode cX4_way 98 = .ok (.iinc 6 1, 3) := by decide +kernel
theorem dX4_way_101 : decode cX4_way 101 = .ok (.goto (-43), 3) := by decide +kernel
theorem dX4_way_104 : decode cX4_way 104 = .ok (.bipush (-9), 2) := by decide +kernel
theorem dX4_way_106 : decode cX4_way 106 = .ok (.ireturn, 1) := by decide +kernel
set_option maxRecDepth 20000 in
theorem ggX4_enclaves_X4_isMule : GoodIn wsX4_enclaves wsX4_isMule := goodIn_r _ [6, 7, 53, 54, 55, 56, 57, 58, 59, 60, 61, 62, 63, 64, 65, 66] (by decide +kernel) (by decide +kernel)
set_option maxRecDepth 20000 in
theorem gX4_enclaves_X4_isMule : GoodIn wsX4_enclaves (wsV RX4 113 RX4 yX4_isMule wsX4_isMule) := goodIn_app (goodIn_of _ (by decide +kernel)) ggX4_enclaves_X4_isMule
set_option maxRecDepth 20000 in
theorem ggX4_enclaves_X4_known : GoodIn wsX4_enclaves wsX4_known := goodIn_r _ [11, 2, 3, 4, 5, 6, 7, 12, 13, 14, 15, 16, 17, 18, 19, 20, 21, 22, 23, 24, 67, 68, 69, 70, 71, 53, 54, 55, 56, 57, 58, 59, 60, 61, 62, 63, 64, 65, 66, 72, 73, 74, 75] (by decide +kernel) (by decide +kernel)
set_option maxRecDepth 20000 in
theorem gX4_enclaves_X4_known : GoodIn wsX4_enclaves (wsV RX4 123 RX4 yX4_known wsX4_known) := goodIn_app (goodIn_of _ (by decide +kernel)) ggX4_enclaves_X4_known
set_option maxRecDepth 20000 in
theorem ggX4_enclaves_X4_spread : GoodIn wsX4_enclaves wsX4_spread := goodIn_r _ [28, 1, 29, 30, 31, 5, 32, 16, 33, 34, 35, 36, 2, 3, 4, 6, 7, 37, 38, 39, 40, 41, 42, 43, 44, 18, 45, 46, 21, 47, 48, 49, 50, 51, 52, 53, 54, 55, 56, 57, 58, 59, 60, 61, 62, 63, 64, 65, 66, 72, 73, 74, 75, 67, 68, 69, 70, 71] (by decide +kernel) (by decide +kernel)
set_option maxRecDepth 20000 in
theorem gX4_enclaves_X4_spread : GoodIn wsX4_enclaves (wsV RX4 167 RX4 yX4_spread wsX4_spread) := goodIn_app (goodIn_of _ (by decide +kernel)) ggX4_enclaves_X4_spread
theorem dX4_enclaves_0 : decode cX4_enclaves 0 = .ok (.aload_n 0, 1) := by decide +kernel
theorem dX4_enclaves_1 : decode cX4_enclaves 1 = .ok (.iload_n 1, 1) := by decide +kernel
theorem dX4_enclaves_2 : decode cX4_enclaves 2 = .ok (.invokevirtual 113, 3) := by decide +kernel
theorem dX4_enclaves_5 : decode cX4_enclaves 5 = .ok (.ifCond .ne 5, 3) := by decide +kernel
theorem dX4_enclaves_8 : decode cX4_enclaves 8 = .ok (.iconst (-1), 1) := by decide +kernel
theorem dX4_enclaves_9 : decode cX4_enclaves 9 = .ok (.ireturn, 1) := by decide +kernel
theorem dX4_enclaves_10 : decode cX4_enclaves 10 = .ok (.aload_n 0, 1) := by decide +kernel
theorem dX4_enclaves_11 : decode cX4_enclaves 11 = .ok (.aload_n 0, 1) := by decide +kernel
theorem dX4_enclaves_12 : decode cX4_enclaves 12 = .ok (.getfield 34, 3) := by decide +kernel
theorem dX4_enclaves_15 : decode cX4_enclaves 15 = .ok (.iload_n 1, 1) := by decide +kernel
theorem dX4_enclaves_16 : decode cX4_enclaves 16 = .ok (.invokevirtual 123, 3) := by decide +kernel
theorem dX4_enclaves_19 : decode cX4_enclaves 19 = .ok (.istore_n 2, 1) := by decide +kernel
theorem dX4_enclaves_20 : decode cX4_enclaves 20 = .ok (.iconst 1, 1) := by decide +kernel
theorem dX4_enclaves_21 : decode cX4_enclaves 21 = .ok (.aload_n 0, 1) := by decide +kernel
theorem dX4_enclaves_22 : decode cX4_enclaves 22 = .ok (.getfield 34, 3) := by decide +kernel
theorem dX4_enclaves_25 : decode cX4_enclaves 25 = .ok (.getfield 116, 3) := by decide +kernel
theorem dX4_enclaves_28 : decode cX4_enclaves 28 = .ok (.iload_n 1, 1) := by decide +kernel
theorem dX4_enclaves_29 : decode cX4_enclaves 29 = .ok (.iaload, 1) := by decide +kernel
theorem dX4_enclaves_30 : decode cX4_enclaves 30 = .ok (.ishl, 1) := by decide +kernel
theorem dX4_enclaves_31 : decode cX4_enclaves 31 = .ok (.istore_n 3, 1) := by decide +kernel
theorem dX4_enclaves_32 : decode cX4_enclaves 32 = .ok (.iconst 0, 1) := by decide +kernel
theorem dX4_enclaves_33 : decode cX4_enclaves 33 = .ok (.istore 4, 2) := by decide +kernel
theorem dX4_enclaves_35 : decode cX4_enclaves 35 = .ok (.iload 4, 2) := by decide +kernel
theorem dX4_enclaves_37 : decode cX4_enclaves 37 = .ok (.bipush 12, 2) := by decide +kernel
theorem dX4_enclaves_39 : decode cX4_enclaves 39 = .ok (.if_icmp .ge 27, 3) := by decide +kernel
theorem dX4_enclaves_42 : decode cX4_enclaves 42 = .ok (.aload_n 0, 1) := by decide +kernel
theorem dX4_enclaves_43 : decode cX4_enclaves 43 = .ok (.iload_n 1, 1) := by decide +kernel
theorem dX4_enclaves_44 : decode cX4_enclaves 44 = .ok (.iload_n 3, 1) := by decide +kernel
theorem dX4_enclaves_45 : decode cX4_enclaves 45 = .ok (.aload_n 0, 1) := by decide +kernel
theorem dX4_enclaves_46 : decode cX4_enclaves 46 = .ok (.getfield 34, 3) := by decide +kernel
theorem dX4_enclaves_49 : decode cX4_enclaves 49 = .ok (.getfield 86, 3) := by decide +kernel
theorem dX4_enclaves_52 : decode cX4_enclaves 52 = .ok (.iload 4, 2) := by decide +kernel
theorem dX4_enclaves_54 : decode cX4_enclaves 54 = .ok (.iadd, 1) := by decide +kernel
theorem dX4_enclaves_55 : decode cX4_enclaves 55 = .ok (.iload_n 2, 1) := by decide +kernel
theorem dX4_enclaves_56 : decode cX4_enclaves 56 = .ok (.invokevirtual 167, 3) := by decide +kernel
theorem dX4_enclaves_59 : decode cX4_enclaves 59 = .ok (.istore_n 3, 1) := by decide +kernel
theorem dX4_enclaves_60 : decode cX4_enclaves 60 = .ok (.iinc 4 1, 3) := by decide +kernel
theorem dX4_enclaves_63 : decode cX4_enclaves 63 = .ok (.goto (-28), 3) := by decide +kernel
theorem dX4_enclaves_66 : decode cX4_enclaves 66 = .ok (.iload_n 3, 1) := by decide +kernel
theorem dX4_enclaves_67 : decode cX4_enclaves 67 = .ok (.iconst (-1), 1) := by decide +kernel
theorem dX4_enclaves_68 : decode cX4_enclaves 68 = .ok (.ixor, 1) := by decide +kernel
theorem dX4_enclaves_69 : decode cX4_enclaves 69 = .ok (.sipush 1023, 3) := by decide +kernel
theorem dX4_enclaves_72 : decode cX4_enclaves 72 = .ok (.iand, 1) := by decide +kernel
theorem dX4_enclaves_73 : decode cX4_enclaves 73 = .ok (.ireturn, 1) := by decide +kernel
set_option maxRecDepth 20000 in
theorem ggX4_teach_X4_isMule : GoodIn wsX4_teach wsX4_isMule := goodIn_r _ [7, 8, 64, 65, 66, 67, 68, 69, 70, 71, 72, 73, 74, 75, 76, 77] (by decide +kernel) (by decide +kernel)
set_option maxRecDepth 20000 in
theorem gX4_teach_X4_isMule : GoodIn wsX4_teach (wsV RX4 113 RX4 yX4_isMule wsX4_isMule) := goodIn_app (goodIn_of _ (by decide +kernel)) ggX4_teach_X4_isMule
set_option maxRecDepth 20000 in
theorem ggX4_teach_X4_known : GoodIn wsX4_teach wsX4_known := goodIn_r _ [12, 3, 4, 5, 6, 7, 8, 13, 14, 15, 16, 2, 17, 18, 19, 20, 21, 22, 23, 24, 78, 79, 80, 81, 82, 64, 65, 66, 67, 68, 69, 70, 71, 72, 73, 74, 75, 76, 77, 83, 84, 85, 86] (by decide +kernel) (by decide +kernel)
set_option maxRecDepth 20000 in
theorem gX4_teach_X4_known : GoodIn wsX4_teach (wsV RX4 123 RX4 yX4_known wsX4_known) := goodIn_app (goodIn_of _ (by decide +kernel)) ggX4_teach_X4_known
set_option maxRecDepth 20000 in
theorem ggX4_teach_X0_all : GoodIn wsX4_teach wsX0_all := goodIn_r _ [20, 21, 83, 84, 85, 86] (by decide +kernel) (by decide +kernel)
set_option maxRecDepth 20000 in
theorem gX4_teach_X0_all_n164 : GoodIn wsX4_teach (wsX0_all) := ggX4_teach_X0_all
set_option maxRecDepth 20000 in
theorem ggX4_teach_J6_bitCount_0f7a4 : GoodIn wsX4_teach wsJ6_bitCount_0f7a4 := goodIn_r _ [28, 29, 30, 31] (by decide +kernel) (by decide +kernel)
set_option maxRecDepth 20000 in
theorem gX4_teach_J6_bitCount_0f7a4 : GoodIn wsX4_teach (va_wsS RX4 152 yJ6_bitCount_0f7a4 wsJ6_bitCount_0f7a4) := goodIn_app (goodIn_of _ (by decide +kernel)) ggX4_teach_J6_bitCount_0f7a4
set_option maxRecDepth 20000 in
theorem ggX4_teach_X4_keepsAllIfShown : GoodIn wsX4_teach wsX4_keepsAllIfShown := goodIn_r _ [35, 1, 3, 4, 5, 6, 7, 8, 13, 14, 15, 16, 2, 17, 18, 19, 20, 21, 22, 23, 24, 36, 37, 38, 39, 40, 41, 42, 43, 44, 45, 46, 47, 48, 49, 50, 51, 52, 53, 54, 55, 56, 57, 58, 59, 60, 61, 62, 63, 64, 65, 66, 67, 68, 69, 70, 71, 72, 73, 74, 75, 76, 77, 78, 79, 80, 81, 82, 83, 84, 85, 86] (by decide +kernel) (by decide +kernel)
set_option maxRecDepth 20000 in
theorem gX4_teach_X4_keepsAllIfShown : GoodIn wsX4_teach (wsV RX4 171 RX4 yX4_keepsAllIfShown wsX4_keepsAllIfShown) := goodIn_app (goodIn_of _ (by decide +kernel)) ggX4_teach_X4_keepsAllIfShown
theorem dX4_teach_0 : decode cX4_teach 0 = .ok (.aload_n 0, 1) := by decide +kernel
theorem dX4_teach_1 : decode cX4_teach 1 = .ok (.iload_n 1, 1) := by decide +kernel
theorem dX4_teach_2 : decode cX4_teach 2 = .ok (.invokevirtual 113, 3) := by decide +kernel
theorem dX4_teach_5 : decode cX4_teach 5 = .ok (.ifCond .ne 5, 3) := by decide +kernel
theorem dX4_teach_8 : decode cX4_teach 8 = .ok (.iconst (-1), 1) := by decide +kernel
theorem dX4_teach_9 : decode cX4_teach 9 = .ok (.ireturn, 1) := by decide +kernel
theorem dX4_teach_10 : decode cX4_teach 10 = .ok (.aload_n 0, 1) := by decide +kernel
theorem dX4_teach_11 : decode cX4_teach 11 = .ok (.aload_n 0, 1) := by decide +kernel
theorem dX4_teach_12 : decode cX4_teach 12 = .ok (.getfield 34, 3) := by decide +kernel
theorem dX4_teach_15 : decode cX4_teach 15 = .ok (.iload_n 1, 1) := by decide +kernel
theorem dX4_teach_16 : decode cX4_teach 16 = .ok (.invokevirtual 123, 3) := by decide +kernel
theorem dX4_teach_19 : decode cX4_teach 19 = .ok (.istore_n 2, 1) := by decide +kernel
theorem dX4_teach_20 : decode cX4_teach 20 = .ok (.bipush (-9), 2) := by decide +kernel
theorem dX4_teach_22 : decode cX4_teach 22 = .ok (.istore_n 3, 1) := by decide +kernel
theorem dX4_teach_23 : decode cX4_teach 23 = .ok (.bipush 6, 2) := by decide +kernel
theorem dX4_teach_25 : decode cX4_teach 25 = .ok (.istore 4, 2) := by decide +kernel
theorem dX4_teach_27 : decode cX4_teach 27 = .ok (.iconst 0, 1) := by decide +kernel
theorem dX4_teach_28 : decode cX4_teach 28 = .ok (.istore 5, 2) := by decide +kernel
theorem dX4_teach_30 : decode cX4_teach 30 = .ok (.iload 5, 2) := by decide +kernel
theorem dX4_teach_32 : decode cX4_teach 32 = .ok (.aload_n 0, 1) := by decide +kernel
theorem dX4_teach_33 : decode cX4_teach 33 = .ok (.getfield 19, 3) := by decide +kernel
theorem dX4_teach_36 : decode cX4_teach 36 = .ok (.invokevirtual 164, 3) := by decide +kernel
theorem dX4_teach_39 : decode cX4_teach 39 = .ok (.if_icmp .gt 47, 3) := by decide +kernel
theorem dX4_teach_42 : decode cX4_teach 42 = .ok (.iload 5, 2) := by decide +kernel
theorem dX4_teach_44 : decode cX4_teach 44 = .ok (.invokestatic 152, 3) := by decide +kernel
theorem dX4_teach_47 : decode cX4_teach 47 = .ok (.istore 6, 2) := by decide +kernel
theorem dX4_teach_49 : decode cX4_teach 49 = .ok (.iload 5, 2) := by decide +kernel
theorem dX4_teach_51 : decode cX4_teach 51 = .ok (.iload_n 2, 1) := by decide +kernel
theorem dX4_teach_52 : decode cX4_teach 52 = .ok (.iand, 1) := by decide +kernel
theorem dX4_teach_53 : decode cX4_teach 53 = .ok (.ifCond .ne 27, 3) := by decide +kernel
theorem dX4_teach_56 : decode cX4_teach 56 = .ok (.iload 6, 2) := by decide +kernel
theorem dX4_teach_58 : decode cX4_teach 58 = .ok (.iload 4, 2) := by decide +kernel
theorem dX4_teach_60 : decode cX4_teach 60 = .ok (.if_icmp .ge 20, 3) := by decide +kernel
theorem dX4_teach_63 : decode cX4_teach 63 = .ok (.aload_n 0, 1) := by decide +kernel
theorem dX4_teach_64 : decode cX4_teach 64 = .ok (.iload_n 1, 1) := by decide +kernel
theorem dX4_teach_65 : decode cX4_teach 65 = .ok (.iload 5, 2) := by decide +kernel
theorem dX4_teach_67 : decode cX4_teach 67 = .ok (.invokevirtual 171, 3) := by decide +kernel
theorem dX4_teach_70 : decode cX4_teach 70 = .ok (.ifCond .eq 10, 3) := by decide +kernel
theorem dX4_teach_73 : decode cX4_teach 73 = .ok (.iload 5, 2) := by decide +kernel
theorem dX4_teach_75 : decode cX4_teach 75 = .ok (.istore_n 3, 1) := by decide +kernel
theorem dX4_teach_76 : decode cX4_teach 76 = .ok (.iload 6, 2) := by decide +kernel
theorem dX4_teach_78 : decode cX4_teach 78 = .ok (.istore 4, 2) := by decide +kernel
theorem dX4_teach_80 : decode cX4_teach 80 = .ok (.iinc 5 1, 3) := by decide +kernel
theorem dX4_teach_83 : decode cX4_teach 83 = .ok (.goto (-53), 3) := by decide +kernel
theorem dX4_teach_86 : decode cX4_teach 86 = .ok (.iload_n 3, 1) := by decide +kernel
theorem dX4_teach_87 : decode cX4_teach 87 = .ok (.ireturn, 1) := by decide +kernel
set_option maxRecDepth 20000 in
theorem ggX4_differ_X4_isMule : GoodIn wsX4_differ wsX4_isMule := goodIn_r _ [6, 7, 28, 29, 30, 31, 32, 33, 34, 35, 36, 37, 38, 39, 40, 41] (by decide +kernel) (by decide +kernel)
set_option maxRecDepth 20000 in
theorem gX4_differ_X4_isMule : GoodIn wsX4_differ (wsV RX4 113 RX4 yX4_isMule wsX4_isMule) := goodIn_app (goodIn_of _ (by decide +kernel)) ggX4_differ_X4_isMule
set_option maxRecDepth 20000 in
theorem ggX4_differ_X4_known : GoodIn wsX4_differ wsX4_known := goodIn_r _ [11, 2, 3, 4, 5, 6, 7, 12, 13, 14, 15, 16, 17, 18, 19, 20, 21, 22, 23, 24, 42, 43, 44, 45, 46, 28, 29, 30, 31, 32, 33, 34, 35, 36, 37, 38, 39, 40, 41, 47, 48, 49, 50] (by decide +kernel) (by decide +kernel)
set_option maxRecDepth 20000 in
theorem gX4_differ_X4_known : GoodIn wsX4_differ (wsV RX4 123 RX4 yX4_known wsX4_known) := goodIn_app (goodIn_of _ (by decide +kernel)) ggX4_differ_X4_known
set_option maxRecDepth 20000 in
theorem ggX4_differ_X4_firstOf : GoodIn wsX4_differ wsX4_firstOf := goodIn_r _ [27] (by decide +kernel) (by decide +kernel)
set_option maxRecDepth 20000 in
theorem gX4_differ_X4_firstOf : GoodIn wsX4_differ (va_wsS RX4 138 yX4_firstOf wsX4_firstOf) := goodIn_app (goodIn_of _ (by decide +kernel)) ggX4_differ_X4_firstOf
theorem dX4_differ_0 : decode cX4_differ 0 = .ok (.aload_n 0, 1) := by decide +kernel
theorem dX4_differ_1 : decode cX4_differ 1 = .ok (.iload_n 1, 1) := by decide +kernel
theorem dX4_differ_2 : decode cX4_differ 2 = .ok (.invokevirtual 113, 3) := by decide +kernel
theorem dX4_differ_5 : decode cX4_differ 5 = .ok (.ifCond .eq 11, 3) := by decide +kernel
theorem dX4_differ_8 : decode cX4_differ 8 = .ok (.aload_n 0, 1) := by decide +kernel
theorem dX4_differ_9 : decode cX4_differ 9 = .ok (.iload_n 2, 1) := by decide +kernel
theorem dX4_differ_10 : decode cX4_differ 10 = .ok (.invokevirtual 113, 3) := by decide +kernel
theorem dX4_differ_13 : decode cX4_differ 13 = .ok (.ifCond .ne 5, 3) := by decide +kernel
theorem dX4_differ_16 : decode cX4_differ 16 = .ok (.iconst (-1), 1) := by decide +kernel
theorem dX4_differ_17 : decode cX4_differ 17 = .ok (.ireturn, 1) := by decide +kernel
theorem dX4_differ_18 : decode cX4_differ 18 = .ok (.aload_n 0, 1) := by decide +kernel
theorem dX4_differ_19 : decode cX4_differ 19 = .ok (.aload_n 0, 1) := by decide +kernel
theorem dX4_differ_20 : decode cX4_differ 20 = .ok (.getfield 34, 3) := by decide +kernel
theorem dX4_differ_23 : decode cX4_differ 23 = .ok (.iload_n 1, 1) := by decide +kernel
theorem dX4_differ_24 : decode cX4_differ 24 = .ok (.invokevirtual 123, 3) := by decide +kernel
theorem dX4_differ_27 : decode cX4_differ 27 = .ok (.aload_n 0, 1) := by decide +kernel
theorem dX4_differ_28 : decode cX4_differ 28 = .ok (.aload_n 0, 1) := by decide +kernel
theorem dX4_differ_29 : decode cX4_differ 29 = .ok (.getfield 34, 3) := by decide +kernel
theorem dX4_differ_32 : decode cX4_differ 32 = .ok (.iload_n 2, 1) := by decide +kernel
theorem dX4_differ_33 : decode cX4_differ 33 = .ok (.invokevirtual 123, 3) := by decide +kernel
theorem dX4_differ_36 : decode cX4_differ 36 = .ok (.ixor, 1) := by decide +kernel
theorem dX4_differ_37 : decode cX4_differ 37 = .ok (.invokestatic 138, 3) := by decide +kernel
theorem dX4_differ_40 : decode cX4_differ 40 = .ok (.ireturn, 1) := by decide +kernel
set_option maxRecDepth 20000 in
theorem ggX4_judge_X4_copyState : GoodIn wsX4_judge wsX4_copyState := goodIn_r _ [6, 75, 76, 77, 78, 79] (by decide +kernel) (by decide +kernel)
set_option maxRecDepth 20000 in
theorem gX4_judge_X4_copyState : GoodIn wsX4_judge (va_wsS RX4 157 yX4_copyState wsX4_copyState) := goodIn_app (goodIn_of _ (by decide +kernel)) ggX4_judge_X4_copyState
set_option maxRecDepth 20000 in
theorem ggX4_judge_X4_doneWithoutFault : GoodIn wsX4_judge wsX4_doneWithoutFault := goodIn_r _ [10, 11, 12, 5, 13, 14, 15, 16, 17, 18, 19, 20, 21, 22, 23, 24, 25, 26, 27, 28, 29, 30, 31, 32, 33, 34, 35, 36, 37, 38, 39, 40, 41, 42, 43, 44, 45, 46, 47, 48, 49, 50, 51, 52, 53, 54, 55, 56, 57, 58, 59, 60, 75, 76, 77, 78, 79, 61, 62, 63, 64, 65, 66, 67, 68, 69, 70, 71, 72, 73, 74, 80, 81, 82, 83] (by decide +kernel) (by decide +kernel)
set_option maxRecDepth 20000 in
theorem gX4_judge_X4_doneWithoutFault : GoodIn wsX4_judge (wsV RX4 175 RX4 yX4_doneWithoutFault wsX4_doneWithoutFault) := goodIn_app (goodIn_of _ (by decide +kernel)) ggX4_judge_X4_doneWithoutFault
theorem dX4_judge_0 : decode cX4_judge 0 = .ok (.iload_n 1, 1) := by decide +kernel
theorem dX4_judge_1 : decode cX4_judge 1 = .ok (.iconst 1, 1) := by decide +kernel
theorem dX4_judge_2 : decode cX4_judge 2 = .ok (.if_icmp .lt 12, 3) := by decide +kernel
theorem dX4_judge_5 : decode cX4_judge 5 = .ok (.iload_n 1, 1) := by decide +kernel
theorem dX4_judge_6 : decode cX4_judge 6 = .ok (.iconst 4, 1) := by decide +kernel
theorem dX4_judge_7 : decode cX4_judge 7 = .ok (.if_icmp .gt 7, 3) := by decide +kernel
theorem dX4_judge_10 : decode cX4_judge 10 = .ok (.iload_n 2, 1) := by decide +kernel
theorem dX4_judge_11 : decode cX4_judge 11 = .ok (.ifCond .ge 6, 3) := by decide +kernel
theorem dX4_judge_14 : decode cX4_judge 14 = .ok (.bipush (-2), 2) := by decide +kernel
theorem dX4_judge_16 : decode cX4_judge 16 = .ok (.ireturn, 1) := by decide +kernel
theorem dX4_judge_17 : decode cX4_judge 17 = .ok (.iconst 1, 1) := by decide +kernel
theorem dX4_judge_18 : decode cX4_judge 18 = .ok (.istore_n 3, 1) := by decide +kernel
theorem dX4_judge_19 : decode cX4_judge 19 = .ok (.iconst 1, 1) := by decide +kernel
theorem dX4_judge_20 : decode cX4_judge 20 = .ok (.istore 4, 2) := by decide +kernel
theorem dX4_judge_22 : decode cX4_judge 22 = .ok (.iload 4, 2) := by decide +kernel
theorem dX4_judge_24 : decode cX4_judge 24 = .ok (.iload_n 1, 1) := by decide +kernel
theorem dX4_judge_25 : decode cX4_judge 25 = .ok (.if_icmp .ge 14, 3) := by decide +kernel
theorem dX4_judge_28 : decode cX4_judge 28 = .ok (.iload_n 3, 1) := by decide +kernel
theorem dX4_judge_29 : decode cX4_judge 29 = .ok (.bipush 100, 2) := by decide +kernel
theorem dX4_judge_31 : decode cX4_judge 31 = .ok (.imul, 1) := by decide +kernel
theorem dX4_judge_32 : decode cX4_judge 32 = .ok (.istore_n 3, 1) := by decide +kernel
theorem dX4_judge_33 : decode cX4_judge 33 = .ok (.iinc 4 1, 3) := by decide +kernel
theorem dX4_judge_36 : decode cX4_judge 36 = .ok (.goto (-14), 3) := by decide +kernel
theorem dX4_judge_39 : decode cX4_judge 39 = .ok (.iload_n 3, 1) := by decide +kernel
theorem dX4_judge_40 : decode cX4_judge 40 = .ok (.ifCond .le 11, 3) := by decide +kernel
theorem dX4_judge_43 : decode cX4_judge 43 = .ok (.iload_n 2, 1) := by decide +kernel
theorem dX4_judge_44 : decode cX4_judge 44 = .ok (.iload_n 3, 1) := by decide +kernel
theorem dX4_judge_45 : decode cX4_judge 45 = .ok (.idiv, 1) := by decide +kernel
theorem dX4_judge_46 : decode cX4_judge 46 = .ok (.bipush 99, 2) := by decide +kernel
theorem dX4_judge_48 : decode cX4_judge 48 = .ok (.if_icmp .le 6, 3) := by decide +kernel
theorem dX4_judge_51 : decode cX4_judge 51 = .ok (.bipush (-2), 2) := by decide +kernel
theorem dX4_judge_53 : decode cX4_judge 53 = .ok (.ireturn, 1) := by decide +kernel
theorem dX4_judge_54 : decode cX4_judge 54 = .ok (.aload_n 0, 1) := by decide +kernel
theorem dX4_judge_55 : decode cX4_judge 55 = .ok (.getfield 34, 3) := by decide +kernel
theorem dX4_judge_58 : decode cX4_judge 58 = .ok (.aload_n 0, 1) := by decide +kernel
theorem dX4_judge_59 : decode cX4_judge 59 = .ok (.getfield 38, 3) := by decide +kernel
theorem dX4_judge_62 : decode cX4_judge 62 = .ok (.invokestatic 157, 3) := by decide +kernel
theorem dX4_judge_65 : decode cX4_judge 65 = .ok (.iconst 0, 1) := by decide +kernel
theorem dX4_judge_66 : decode cX4_judge 66 = .ok (.istore 4, 2) := by decide +kernel
theorem dX4_judge_68 : decode cX4_judge 68 = .ok (.iload 4, 2) := by decide +kernel
theorem dX4_judge_70 : decode cX4_judge 70 = .ok (.iload_n 1, 1) := by decide +kernel
theorem dX4_judge_71 : decode cX4_judge 71 = .ok (.if_icmp .ge 50, 3) := by decide +kernel
theorem dX4_judge_74 : decode cX4_judge 74 = .ok (.iload_n 3, 1) := by decide +kernel
theorem dX4_judge_75 : decode cX4_judge 75 = .ok (.ifCond .le 46, 3) := by decide +kernel
theorem dX4_judge_78 : decode cX4_judge 78 = .ok (.iload_n 2, 1) := by decide +kernel
theorem dX4_judge_79 : decode cX4_judge 79 = .ok (.iload_n 3, 1) := by decide +kernel
theorem dX4_judge_80 : decode cX4_judge 80 = .ok (.idiv, 1) := by decide +kernel
theorem dX4_judge_81 : decode cX4_judge 81 = .ok (.bipush 100, 2) := by decide +kernel
theorem dX4_judge_83 : decode cX4_judge 83 = .ok (.irem, 1) := by decide +kernel
theorem dX4_judge_84 : decode cX4_judge 84 = .ok (.istore 5, 2) := by decide +kernel
theorem dX4_judge_86 : decode cX4_judge 86 = .ok (.aload_n 0, 1) := by decide +kernel
theorem dX4_judge_87 : decode cX4_judge 87 = .ok (.aload_n 0, 1) := by decide +kernel
theorem dX4_judge_88 : decode cX4_judge 88 = .ok (.getfield 38, 3) := by decide +kernel
theorem dX4_judge_91 : decode cX4_judge 91 = .ok (.iload 5, 2) := by decide +kernel
theorem dX4_judge_93 : decode cX4_judge 93 = .ok (.bipush 10, 2) := by decide +kernel
theorem dX4_judge_95 : decode cX4_judge 95 = .ok (.idiv, 1) := by decide +kernel
theorem dX4_judge_96 : decode cX4_judge 96 = .ok (.iload 5, 2) := by decide +kernel
theorem dX4_judge_98 : decode cX4_judge 98 = .ok (.bipush 10, 2) := by decide +kernel
theorem dX4_judge_100 : decode cX4_judge 100 = .ok (.irem, 1) := by decide +kernel
theorem dX4_judge_101 : decode cX4_judge 101 = .ok (.invokevirtual 175, 3) := by decide +kernel
theorem dX4_judge_104 : decode cX4_judge 104 = .ok (.ifCond .ne 6, 3) := by decide +kernel
theorem dX4_judge_107 : decode cX4_judge 107 = .ok (.iload 4, 2) := by decide +kernel
theorem dX4_judge_109 : decode cX4_judge 109 = .ok (.ireturn, 1) := by decide +kernel
theorem dX4_judge_110 : decode cX4_judge 110 = .ok (.iload_n 3, 1) := by decide +kernel
theorem dX4_judge_111 : decode cX4_judge 111 = .ok (.bipush 100, 2) := by decide +kernel
theorem dX4_judge_113 : decode cX4_judge 113 = .ok (.idiv, 1) := by decide +kernel
theorem dX4_judge_114 : decode cX4_judge 114 = .ok (.istore_n 3, 1) := by decide +kernel
theorem dX4_judge_115 : decode cX4_judge 115 = .ok (.iinc 4 1, 3) := by decide +kernel
theorem dX4_judge_118 : decode cX4_judge 118 = .ok (.goto (-50), 3) := by decide +kernel
theorem dX4_judge_121 : decode cX4_judge 121 = .ok (.bipush (-9), 2) := by decide +kernel
theorem dX4_judge_123 : decode cX4_judge 123 = .ok (.ireturn, 1) := by decide +kernel
set_option maxRecDepth 20000 in
theorem ggX4_share_X4_isArticle : GoodIn wsX4_share wsX4_isArticle := goodIn_r _ [7, 8, 56, 57, 58, 59, 60, 61, 62, 63, 64, 65, 66, 67, 68, 69, 70, 71, 72, 73] (by decide +kernel) (by decide +kernel)
set_option maxRecDepth 20000 in
theorem gX4_share_X4_isArticle : GoodIn wsX4_share (wsV RX4 97 RX4 yX4_isArticle wsX4_isArticle) := goodIn_app (goodIn_of _ (by decide +kernel)) ggX4_share_X4_isArticle
set_option maxRecDepth 20000 in
theorem ggX4_share_X4_forbidders : GoodIn wsX4_share wsX4_forbidders := goodIn_r _ [12, 13, 14, 15, 6, 16, 1, 17, 18, 19, 20, 8, 21, 22, 23, 24, 25, 26, 27, 28, 29, 30, 31, 32, 33, 34, 35, 36, 37, 38, 39, 40, 41, 42, 74, 75, 76, 77, 78, 56, 57, 58, 59, 60, 61, 62, 63, 64, 65, 66, 67, 68, 69, 70, 71, 72, 73] (by decide +kernel) (by decide +kernel)
set_option maxRecDepth 20000 in
theorem gX4_share_X4_forbidders : GoodIn wsX4_share (wsV RX4 131 RX4 yX4_forbidders wsX4_forbidders) := goodIn_app (goodIn_of _ (by decide +kernel)) ggX4_share_X4_forbidders
set_option maxRecDepth 20000 in
theorem ggX4_share_X4_sixtiethsOfStep : GoodIn wsX4_share wsX4_sixtiethsOfStep := goodIn_r _ [45, 46, 47, 48, 49, 50, 51, 52] (by decide +kernel) (by decide +kernel)
set_option maxRecDepth 20000 in
theorem gX4_share_X4_sixtiethsOfStep : GoodIn wsX4_share (va_wsS RX4 178 yX4_sixtiethsOfStep wsX4_sixtiethsOfStep) := goodIn_app (goodIn_of _ (by decide +kernel)) ggX4_share_X4_sixtiethsOfStep
set_option maxRecDepth 20000 in
theorem ggX4_share_X4_fractionPart : GoodIn wsX4_share wsX4_fractionPart := goodIn_r _ [55] (by decide +kernel) (by decide +kernel)
set_option maxRecDepth 20000 in
theorem gX4_share_X4_fractionPart : GoodIn wsX4_share (va_wsS RX4 181 yX4_fractionPart wsX4_fractionPart) := goodIn_app (goodIn_of _ (by decide +kernel)) ggX4_share_X4_fractionPart
theorem dX4_share_0 : decode cX4_share 0 = .ok (.aload_n 0, 1) := by decide +kernel
theorem dX4_share_1 : decode cX4_share 1 = .ok (.iload_n 1, 1) := by decide +kernel
theorem dX4_share_2 : decode cX4_share 2 = .ok (.invokevirtual 97, 3) := by decide +kernel
theorem dX4_share_5 : decode cX4_share 5 = .ok (.ifCond .ne 5, 3) := by decide +kernel
theorem dX4_share_8 : decode cX4_share 8 = .ok (.iconst (-1), 1) := by decide +kernel
theorem dX4_share_9 : decode cX4_share 9 = .ok (.ireturn, 1) := by decide +kernel
theorem dX4_share_10 : decode cX4_share 10 = .ok (.iconst 0, 1) := by decide +kernel
theorem dX4_share_11 : decode cX4_share 11 = .ok (.istore_n 3, 1) := by decide +kernel
theorem dX4_share_12 : decode cX4_share 12 = .ok (.iconst 0, 1) := by decide +kernel
theorem dX4_share_13 : decode cX4_share 13 = .ok (.istore 4, 2) := by decide +kernel
theorem dX4_share_15 : decode cX4_share 15 = .ok (.iload 4, 2) := by decide +kernel
theorem dX4_share_17 : decode cX4_share 17 = .ok (.aload_n 0, 1) := by decide +kernel
theorem dX4_share_18 : decode cX4_share 18 = .ok (.getfield 27, 3) := by decide +kernel
theorem dX4_share_21 : decode cX4_share 21 = .ok (.if_icmp .ge 43, 3) := by decide +kernel
theorem dX4_share_24 : decode cX4_share 24 = .ok (.iconst 0, 1) := by decide +kernel
theorem dX4_share_25 : decode cX4_share 25 = .ok (.istore 5, 2) := by decide +kernel
theorem dX4_share_27 : decode cX4_share 27 = .ok (.iload 5, 2) := by decide +kernel
theorem dX4_share_29 : decode cX4_share 29 = .ok (.iconst 1, 1) := by decide +kernel
theorem dX4_share_30 : decode cX4_share 30 = .ok (.if_icmp .gt 28, 3) := by decide +kernel
theorem dX4_share_33 : decode cX4_share 33 = .ok (.iload_n 3, 1) := by decide +kernel
theorem dX4_share_34 : decode cX4_share 34 = .ok (.aload_n 0, 1) := by decide +kernel
theorem dX4_share_35 : decode cX4_share 35 = .ok (.aload_n 0, 1) := by decide +kernel
theorem dX4_share_36 : decode cX4_share 36 = .ok (.getfield 34, 3) := by decide +kernel
theorem dX4_share_39 : decode cX4_share 39 = .ok (.iload 4, 2) := by decide +kernel
theorem dX4_share_41 : decode cX4_share 41 = .ok (.iload 5, 2) := by decide +kernel
theorem dX4_share_43 : decode cX4_share 43 = .ok (.invokevirtual 131, 3) := by decide +kernel
theorem dX4_share_46 : decode cX4_share 46 = .ok (.iload_n 1, 1) := by decide +kernel
theorem dX4_share_47 : decode cX4_share 47 = .ok (.invokestatic 178, 3) := by decide +kernel
theorem dX4_share_50 : decode cX4_share 50 = .ok (.iadd, 1) := by decide +kernel
theorem dX4_share_51 : decode cX4_share 51 = .ok (.istore_n 3, 1) := by decide +kernel
theorem dX4_share_52 : decode cX4_share 52 = .ok (.iinc 5 1, 3) := by decide +kernel
theorem dX4_share_55 : decode cX4_share 55 = .ok (.goto (-28), 3) := by decide +kernel
theorem dX4_share_58 : decode cX4_share 58 = .ok (.iinc 4 1, 3) := by decide +kernel
theorem dX4_share_61 : decode cX4_share 61 = .ok (.goto (-46), 3) := by decide +kernel
theorem dX4_share_64 : decode cX4_share 64 = .ok (.iload_n 3, 1) := by decide +kernel
theorem dX4_share_65 : decode cX4_share 65 = .ok (.bipush 60, 2) := by decide +kernel
theorem dX4_share_67 : decode cX4_share 67 = .ok (.iload_n 2, 1) := by decide +kernel
theorem dX4_share_68 : decode cX4_share 68 = .ok (.invokestatic 181, 3) := by decide +kernel
theorem dX4_share_71 : decode cX4_share 71 = .ok (.ireturn, 1) := by decide +kernel
set_option maxRecDepth 20000 in
theorem ggX4_see_X4_isStone : GoodIn wsX4_see wsX4_isStone := goodIn_r _ [5] (by decide +kernel) (by decide +kernel)
set_option maxRecDepth 20000 in
theorem gX4_see_X4_isStone : GoodIn wsX4_see (va_wsS RX4 161 yX4_isStone wsX4_isStone) := goodIn_app (goodIn_of _ (by decide +kernel)) ggX4_see_X4_isStone
set_option maxRecDepth 20000 in
theorem ggX4_see_X4_isFlag : GoodIn wsX4_see wsX4_isFlag := goodIn_r _ [8] (by decide +kernel) (by decide +kernel)
set_option maxRecDepth 20000 in
theorem gX4_see_X4_isFlag : GoodIn wsX4_see (va_wsS RX4 185 yX4_isFlag wsX4_isFlag) := goodIn_app (goodIn_of _ (by decide +kernel)) ggX4_see_X4_isFlag
set_option maxRecDepth 20000 in
theorem ggX4_see_X1_add : GoodIn wsX4_see wsX1_add := goodIn_r _ [12, 13, 14, 15, 16, 17, 18, 33, 34, 35, 36, 37, 38] (by decide +kernel) (by decide +kernel)
set_option maxRecDepth 20000 in
theorem gX4_see_X1_add_n188 : GoodIn wsX4_see (wsX1_add) := ggX4_see_X1_add
theorem dX4_see_0 : decode cX4_see 0 = .ok (.iload_n 1, 1) := by decide +kernel
theorem dX4_see_1 : decode cX4_see 1 = .ok (.invokestatic 161, 3) := by decide +kernel
theorem dX4_see_4 : decode cX4_see 4 = .ok (.ifCond .ne 5, 3) := by decide +kernel
theorem dX4_see_7 : decode cX4_see 7 = .ok (.iconst (-1), 1) := by decide +kernel
theorem dX4_see_8 : decode cX4_see 8 = .ok (.ireturn, 1) := by decide +kernel
theorem dX4_see_9 : decode cX4_see 9 = .ok (.iload_n 2, 1) := by decide +kernel
theorem dX4_see_10 : decode cX4_see 10 = .ok (.ifCond .lt 34, 3) := by decide +kernel
theorem dX4_see_13 : decode cX4_see 13 = .ok (.iload_n 2, 1) := by decide +kernel
theorem dX4_see_14 : decode cX4_see 14 = .ok (.iconst 4, 1) := by decide +kernel
theorem dX4_see_15 : decode cX4_see 15 = .ok (.if_icmp .ge 29, 3) := by decide +kernel
theorem dX4_see_18 : decode cX4_see 18 = .ok (.iload_n 3, 1) := by decide +kernel
theorem dX4_see_19 : decode cX4_see 19 = .ok (.ifCond .lt 25, 3) := by decide +kernel
theorem dX4_see_22 : decode cX4_see 22 = .ok (.iload_n 3, 1) := by decide +kernel
theorem dX4_see_23 : decode cX4_see 23 = .ok (.bipush 10, 2) := by decide +kernel
theorem dX4_see_25 : decode cX4_see 25 = .ok (.if_icmp .ge 19, 3) := by decide +kernel
theorem dX4_see_28 : decode cX4_see 28 = .ok (.iload 4, 2) := by decide +kernel
theorem dX4_see_30 : decode cX4_see 30 = .ok (.invokestatic 185, 3) := by decide +kernel
theorem dX4_see_33 : decode cX4_see 33 = .ok (.ifCond .eq 11, 3) := by decide +kernel
theorem dX4_see_36 : decode cX4_see 36 = .ok (.iload 5, 2) := by decide +kernel
theorem dX4_see_38 : decode cX4_see 38 = .ok (.invokestatic 185, 3) := by decide +kernel
theorem dX4_see_41 : decode cX4_see 41 = .ok (.ifCond .ne 6, 3) := by decide +kernel
theorem dX4_see_44 : decode cX4_see 44 = .ok (.bipush (-2), 2) := by decide +kernel
theorem dX4_see_46 : decode cX4_see 46 = .ok (.ireturn, 1) := by decide +kernel
theorem dX4_see_47 : decode cX4_see 47 = .ok (.aload_n 0, 1) := by decide +kernel
theorem dX4_see_48 : decode cX4_see 48 = .ok (.getfield 61, 3) := by decide +kernel
theorem dX4_see_51 : decode cX4_see 51 = .ok (.iload_n 1, 1) := by decide +kernel
theorem dX4_see_52 : decode cX4_see 52 = .ok (.iload_n 2, 1) := by decide +kernel
theorem dX4_see_53 : decode cX4_see 53 = .ok (.iload_n 3, 1) := by decide +kernel
theorem dX4_see_54 : decode cX4_see 54 = .ok (.iload 4, 2) := by decide +kernel
theorem dX4_see_56 : decode cX4_see 56 = .ok (.iload 5, 2) := by decide +kernel
theorem dX4_see_58 : decode cX4_see 58 = .ok (.invokevirtual 188, 3) := by decide +kernel
theorem dX4_see_61 : decode cX4_see 61 = .ok (.ifCond .eq 13, 3) := by decide +kernel
theorem dX4_see_64 : decode cX4_see 64 = .ok (.aload_n 0, 1) := by decide +kernel
theorem dX4_see_65 : decode cX4_see 65 = .ok (.getfield 61, 3) := by decide +kernel
theorem dX4_see_68 : decode cX4_see 68 = .ok (.getfield 96, 3) := by decide +kernel
theorem dX4_see_71 : decode cX4_see 71 = .ok (.goto 5, 3) := by decide +kernel
theorem dX4_see_74 : decode cX4_see 74 = .ok (.bipush (-4), 2) := by decide +kernel
theorem dX4_see_76 : decode cX4_see 76 = .ok (.ireturn, 1) := by decide +kernel
theorem dX4_unsee_0 : decode cX4_unsee 0 = .ok (.aload_n 0, 1) := by decide +kernel
theorem dX4_unsee_1 : decode cX4_unsee 1 = .ok (.getfield 61, 3) := by decide +kernel
theorem dX4_unsee_4 : decode cX4_unsee 4 = .ok (.getfield 96, 3) := by decide +kernel
theorem dX4_unsee_7 : decode cX4_unsee 7 = .ok (.istore_n 1, 1) := by decide +kernel
theorem dX4_unsee_8 : decode cX4_unsee 8 = .ok (.aload_n 0, 1) := by decide +kernel
theorem dX4_unsee_9 : decode cX4_unsee 9 = .ok (.getfield 61, 3) := by decide +kernel
theorem dX4_unsee_12 : decode cX4_unsee 12 = .ok (.iconst 0, 1) := by decide +kernel
theorem dX4_unsee_13 : decode cX4_unsee 13 = .ok (.putfield 96, 3) := by decide +kernel
theorem dX4_unsee_16 : decode cX4_unsee 16 = .ok (.iload_n 1, 1) := by decide +kernel
theorem dX4_unsee_17 : decode cX4_unsee 17 = .ok (.ireturn, 1) := by decide +kernel
set_option maxRecDepth 20000 in
theorem ggX4_may_X4_isStone : GoodIn wsX4_may wsX4_isStone := goodIn_r _ [5] (by decide +kernel) (by decide +kernel)
set_option maxRecDepth 20000 in
theorem gX4_may_X4_isStone : GoodIn wsX4_may (va_wsS RX4 161 yX4_isStone wsX4_isStone) := goodIn_app (goodIn_of _ (by decide +kernel)) ggX4_may_X4_isStone
set_option maxRecDepth 20000 in
theorem ggX4_may_X4_isFlag : GoodIn wsX4_may wsX4_isFlag := goodIn_r _ [8] (by decide +kernel) (by decide +kernel)
set_option maxRecDepth 20000 in
theorem gX4_may_X4_isFlag : GoodIn wsX4_may (va_wsS RX4 185 yX4_isFlag wsX4_isFlag) := goodIn_app (goodIn_of _ (by decide +kernel)) ggX4_may_X4_isFlag
set_option maxRecDepth 20000 in
theorem ggX4_may_X1_agreeWith : GoodIn wsX4_may wsX1_agreeWith := goodIn_r _ [12, 13, 14, 15, 16, 17, 18, 19, 20, 21, 36, 37, 38, 39, 40, 41] (by decide +kernel) (by decide +kernel)
set_option maxRecDepth 20000 in
theorem gX4_may_X1_agreeWith_n192 : GoodIn wsX4_may (wsX1_agreeWith) := ggX4_may_X1_agreeWith
theorem dX4_may_0 : decode cX4_may 0 = .ok (.iload_n 1, 1) := by decide +kernel
theorem dX4_may_1 : decode cX4_may 1 = .ok (.invokestatic 161, 3) := by decide +kernel
theorem dX4_may_4 : decode cX4_may 4 = .ok (.ifCond .ne 5, 3) := by decide +kernel
theorem dX4_may_7 : decode cX4_may 7 = .ok (.iconst (-1), 1) := by decide +kernel
theorem dX4_may_8 : decode cX4_may 8 = .ok (.ireturn, 1) := by decide +kernel
theorem dX4_may_9 : decode cX4_may 9 = .ok (.iload_n 2, 1) := by decide +kernel
theorem dX4_may_10 : decode cX4_may 10 = .ok (.invokestatic 185, 3) := by decide +kernel
theorem dX4_may_13 : decode cX4_may 13 = .ok (.ifCond .ne 6, 3) := by decide +kernel
theorem dX4_may_16 : decode cX4_may 16 = .ok (.bipush (-2), 2) := by decide +kernel
theorem dX4_may_18 : decode cX4_may 18 = .ok (.ireturn, 1) := by decide +kernel
theorem dX4_may_19 : decode cX4_may 19 = .ok (.iconst 0, 1) := by decide +kernel
theorem dX4_may_20 : decode cX4_may 20 = .ok (.istore_n 3, 1) := by decide +kernel
theorem dX4_may_21 : decode cX4_may 21 = .ok (.bipush (-9), 2) := by decide +kernel
theorem dX4_may_23 : decode cX4_may 23 = .ok (.istore 4, 2) := by decide +kernel
theorem dX4_may_25 : decode cX4_may 25 = .ok (.iconst 0, 1) := by decide +kernel
theorem dX4_may_26 : decode cX4_may 26 = .ok (.istore 5, 2) := by decide +kernel
theorem dX4_may_28 : decode cX4_may 28 = .ok (.iload 5, 2) := by decide +kernel
theorem dX4_may_30 : decode cX4_may 30 = .ok (.iconst 2, 1) := by decide +kernel
theorem dX4_may_31 : decode cX4_may 31 = .ok (.if_icmp .gt 62, 3) := by decide +kernel
theorem dX4_may_34 : decode cX4_may 34 = .ok (.iconst 0, 1) := by decide +kernel
theorem dX4_may_35 : decode cX4_may 35 = .ok (.istore 6, 2) := by decide +kernel
theorem dX4_may_37 : decode cX4_may 37 = .ok (.iload 6, 2) := by decide +kernel
theorem dX4_may_39 : decode cX4_may 39 = .ok (.bipush 10, 2) := by decide +kernel
theorem dX4_may_41 : decode cX4_may 41 = .ok (.if_icmp .ge 46, 3) := by decide +kernel
theorem dX4_may_44 : decode cX4_may 44 = .ok (.aload_n 0, 1) := by decide +kernel
theorem dX4_may_45 : decode cX4_may 45 = .ok (.getfield 61, 3) := by decide +kernel
theorem dX4_may_48 : decode cX4_may 48 = .ok (.iload_n 1, 1) := by decide +kernel
theorem dX4_may_49 : decode cX4_may 49 = .ok (.iload 5, 2) := by decide +kernel
theorem dX4_may_51 : decode cX4_may 51 = .ok (.iload 6, 2) := by decide +kernel
theorem dX4_may_53 : decode cX4_may 53 = .ok (.invokevirtual 192, 3) := by decide +kernel
theorem dX4_may_56 : decode cX4_may 56 = .ok (.ifCond .eq 25, 3) := by decide +kernel
theorem dX4_may_59 : decode cX4_may 59 = .ok (.iload_n 3, 1) := by decide +kernel
theorem dX4_may_60 : decode cX4_may 60 = .ok (.ifCond .ne 14, 3) := by decide +kernel
theorem dX4_may_63 : decode cX4_may 63 = .ok (.bipush 10, 2) := by decide +kernel
theorem dX4_may_65 : decode cX4_may 65 = .ok (.iload 5, 2) := by decide +kernel
theorem dX4_may_67 : decode cX4_may 67 = .ok (.imul, 1) := by decide +kernel
theorem dX4_may_68 : decode cX4_may 68 = .ok (.iload 6, 2) := by decide +kernel
theorem dX4_may_70 : decode cX4_may 70 = .ok (.iadd, 1) := by decide +kernel
theorem dX4_may_71 : decode cX4_may 71 = .ok (.goto 5, 3) := by decide +kernel
theorem dX4_may_74 : decode cX4_may 74 = .ok (.iload 4, 2) := by decide +kernel
theorem dX4_may_76 : decode cX4_may 76 = .ok (.istore 4, 2) := by decide +kernel
theorem dX4_may_78 : decode cX4_may 78 = .ok (.iinc 3 1, 3) := by decide +kernel
theorem dX4_may_81 : decode cX4_may 81 = .ok (.iinc 6 1, 3) := by decide +kernel
theorem dX4_may_84 : decode cX4_may 84 = .ok (.goto (-47), 3) := by decide +kernel
theorem dX4_may_87 : decode cX4_may 87 = .ok (.iinc 5 1, 3) := by decide +kernel
theorem dX4_may_90 : decode cX4_may 90 = .ok (.goto (-62), 3) := by decide +kernel
theorem dX4_may_93 : decode cX4_may 93 = .ok (.iload_n 2, 1) := by decide +kernel
theorem dX4_may_94 : decode cX4_may 94 = .ok (.ifCond .ne 7, 3) := by decide +kernel
theorem dX4_may_97 : decode cX4_may 97 = .ok (.iload_n 3, 1) := by decide +kernel
theorem dX4_may_98 : decode cX4_may 98 = .ok (.goto 5, 3) := by decide +kernel
theorem dX4_may_101 : decode cX4_may 101 = .ok (.iload 4, 2) := by decide +kernel
theorem dX4_may_103 : decode cX4_may 103 = .ok (.ireturn, 1) := by decide +kernel
set_option maxRecDepth 20000 in
theorem ggX4_rests_X4_isFlag : GoodIn wsX4_rests wsX4_isFlag := goodIn_r _ [4] (by decide +kernel) (by decide +kernel)
set_option maxRecDepth 20000 in
theorem gX4_rests_X4_isFlag : GoodIn wsX4_rests (va_wsS RX4 185 yX4_isFlag wsX4_isFlag) := goodIn_app (goodIn_of _ (by decide +kernel)) ggX4_rests_X4_isFlag
set_option maxRecDepth 20000 in
theorem ggX4_rests_X4_worthOfString : GoodIn wsX4_rests wsX4_worthOfString := goodIn_r _ [8, 9, 10, 11, 12, 13, 3, 14, 15, 16, 17, 18, 19, 20, 21, 22, 23, 24, 25, 26, 27, 28, 29, 30, 31, 32, 33, 34, 35, 36, 37, 38, 39, 40, 41, 42, 43, 44, 45, 46, 47, 48, 49, 50, 51, 52, 53, 54, 55, 56, 57, 58, 59, 66, 67, 68, 69, 70, 71, 72, 73, 74, 75, 76, 77, 78, 79, 80, 81, 82, 83, 84, 85, 86, 87, 88] (by decide +kernel) (by decide +kernel)
set_option maxRecDepth 20000 in
theorem gX4_rests_X4_worthOfString : GoodIn wsX4_rests (wsV RX4 196 RX4 yX4_worthOfString wsX4_worthOfString) := goodIn_app (goodIn_of _ (by decide +kernel)) ggX4_rests_X4_worthOfString
set_option maxRecDepth 20000 in
theorem ggX4_rests_X4_isContent : GoodIn wsX4_rests wsX4_isContent := goodIn_r _ [62, 63, 64, 3, 65] (by decide +kernel) (by decide +kernel)
set_option maxRecDepth 20000 in
theorem gX4_rests_X4_isContent : GoodIn wsX4_rests (va_wsS RX4 199 yX4_isContent wsX4_isContent) := goodIn_app (goodIn_of _ (by decide +kernel)) ggX4_rests_X4_isContent
theorem dX4_rests_0 : decode cX4_rests 0 = .ok (.iload_n 1, 1) := by decide +kernel
theorem dX4_rests_1 : decode cX4_rests 1 = .ok (.invokestatic 185, 3) := by decide +kernel
theorem dX4_rests_4 : decode cX4_rests 4 = .ok (.ifCond .ne 6, 3) := by decide +kernel
theorem dX4_rests_7 : decode cX4_rests 7 = .ok (.bipush (-2), 2) := by decide +kernel
theorem dX4_rests_9 : decode cX4_rests 9 = .ok (.ireturn, 1) := by decide +kernel
theorem dX4_rests_10 : decode cX4_rests 10 = .ok (.aload_n 0, 1) := by decide +kernel
theorem dX4_rests_11 : decode cX4_rests 11 = .ok (.invokevirtual 196, 3) := by decide +kernel
theorem dX4_rests_14 : decode cX4_rests 14 = .ok (.istore_n 2, 1) := by decide +kernel
theorem dX4_rests_15 : decode cX4_rests 15 = .ok (.iconst 0, 1) := by decide +kernel
theorem dX4_rests_16 : decode cX4_rests 16 = .ok (.istore_n 3, 1) := by decide +kernel
theorem dX4_rests_17 : decode cX4_rests 17 = .ok (.bipush (-9), 2) := by decide +kernel
theorem dX4_rests_19 : decode cX4_rests 19 = .ok (.istore 4, 2) := by decide +kernel
theorem dX4_rests_21 : decode cX4_rests 21 = .ok (.iconst 0, 1) := by decide +kernel
theorem dX4_rests_22 : decode cX4_rests 22 = .ok (.istore 5, 2) := by decide +kernel
theorem dX4_rests_24 : decode cX4_rests 24 = .ok (.iload 5, 2) := by decide +kernel
theorem dX4_rests_26 : decode cX4_rests 26 = .ok (.iconst 1, 1) := by decide +kernel
theorem dX4_rests_27 : decode cX4_rests 27 = .ok (.if_icmp .gt 68, 3) := by decide +kernel
theorem dX4_rests_30 : decode cX4_rests 30 = .ok (.iconst 0, 1) := by decide +kernel
theorem dX4_rests_31 : decode cX4_rests 31 = .ok (.istore 6, 2) := by decide +kernel
theorem dX4_rests_33 : decode cX4_rests 33 = .ok (.iload 6, 2) := by decide +kernel
theorem dX4_rests_35 : decode cX4_rests 35 = .ok (.iconst 1, 1) := by decide +kernel
theorem dX4_rests_36 : decode cX4_rests 36 = .ok (.if_icmp .gt 53, 3) := by decide +kernel
theorem dX4_rests_39 : decode cX4_rests 39 = .ok (.iload 5, 2) := by decide +kernel
theorem dX4_rests_41 : decode cX4_rests 41 = .ok (.iload 6, 2) := by decide +kernel
theorem dX4_rests_43 : decode cX4_rests 43 = .ok (.iload_n 2, 1) := by decide +kernel
theorem dX4_rests_44 : decode cX4_rests 44 = .ok (.invokestatic 199, 3) := by decide +kernel
theorem dX4_rests_47 : decode cX4_rests 47 = .ok (.ifCond .eq 36, 3) := by decide +kernel
theorem dX4_rests_50 : decode cX4_rests 50 = .ok (.iload 6, 2) := by decide +kernel
theorem dX4_rests_52 : decode cX4_rests 52 = .ok (.iload 5, 2) := by decide +kernel
theorem dX4_rests_54 : decode cX4_rests 54 = .ok (.iload_n 2, 1) := by decide +kernel
theorem dX4_rests_55 : decode cX4_rests 55 = .ok (.invokestatic 199, 3) := by decide +kernel
theorem dX4_rests_58 : decode cX4_rests 58 = .ok (.ifCond .eq 25, 3) := by decide +kernel
theorem dX4_rests_61 : decode cX4_rests 61 = .ok (.iload_n 3, 1) := by decide +kernel
theorem dX4_rests_62 : decode cX4_rests 62 = .ok (.ifCond .ne 14, 3) := by decide +kernel
theorem dX4_rests_65 : decode cX4_rests 65 = .ok (.bipush 10, 2) := by decide +kernel
theorem dX4_rests_67 : decode cX4_rests 67 = .ok (.iload 5, 2) := by decide +kernel
theorem dX4_rests_69 : decode cX4_rests 69 = .ok (.imul, 1) := by decide +kernel
theorem dX4_rests_70 : decode cX4_rests 70 = .ok (.iload 6, 2) := by decide +kernel
theorem dX4_rests_72 : decode cX4_rests 72 = .ok (.iadd, 1) := by decide +kernel
theorem dX4_rests_73 : decode cX4_rests 73 = .ok (.goto 5, 3) := by decide +kernel
theorem dX4_rests_76 : decode cX4_rests 76 = .ok (.iload 4, 2) := by decide +kernel
theorem dX4_rests_78 : decode cX4_rests 78 = .ok (.istore 4, 2) := by decide +kernel
theorem dX4_rests_80 : decode cX4_rests 80 = .ok (.iinc 3 1, 3) := by decide +kernel
theorem dX4_rests_83 : decode cX4_rests 83 = .ok (.iinc 6 1, 3) := by decide +kernel
theorem dX4_rests_86 : decode cX4_rests 86 = .ok (.goto (-53), 3) := by decide +kernel
theorem dX4_rests_89 : decode cX4_rests 89 = .ok (.iinc 5 1, 3) := by decide +kernel
theorem dX4_rests_92 : decode cX4_rests 92 = .ok (.goto (-68), 3) := by decide +kernel
theorem dX4_rests_95 : decode cX4_rests 95 = .ok (.iload_n 1, 1) := by decide +kernel
theorem dX4_rests_96 : decode cX4_rests 96 = .ok (.ifCond .ne 7, 3) := by decide +kernel
theorem dX4_rests_99 : decode cX4_rests 99 = .ok (.iload_n 3, 1) := by decide +kernel
theorem dX4_rests_100 : decode cX4_rests 100 = .ok (.goto 5, 3) := by decide +kernel
theorem dX4_rests_103 : decode cX4_rests 103 = .ok (.iload 4, 2) := by decide +kernel
theorem dX4_rests_105 : decode cX4_rests 105 = .ok (.ireturn, 1) := by decide +kernel
set_option maxRecDepth 20000 in
theorem ggX4_forgets_X4_isFlag : GoodIn wsX4_forgets wsX4_isFlag := goodIn_r _ [6] (by decide +kernel) (by decide +kernel)
set_option maxRecDepth 20000 in
theorem gX4_forgets_X4_isFlag : GoodIn wsX4_forgets (va_wsS RX4 185 yX4_isFlag wsX4_isFlag) := goodIn_app (goodIn_of _ (by decide +kernel)) ggX4_forgets_X4_isFlag
set_option maxRecDepth 20000 in
theorem ggX4_forgets_X4_tenthsToBalk : GoodIn wsX4_forgets wsX4_tenthsToBalk := goodIn_r _ [10, 11, 12, 13, 14, 5, 15, 16, 17, 18, 19, 2, 20, 21, 22, 23, 24, 25, 26, 27, 28, 29, 30, 31, 32, 33, 34, 35, 36, 37, 38, 39, 40, 41, 42, 43, 44, 45, 46, 47, 48, 49, 50, 51, 52, 53, 54, 55, 56, 57, 58, 59, 60, 68, 69, 70, 71, 72, 73, 74, 75, 76, 77, 78, 79, 80, 81, 82, 83, 84, 85, 86, 87, 88, 89, 90] (by decide +kernel) (by decide +kernel)
set_option maxRecDepth 20000 in
theorem gX4_forgets_X4_tenthsToBalk : GoodIn wsX4_forgets (wsV RX4 202 RX4 yX4_tenthsToBalk wsX4_tenthsToBalk) := goodIn_app (goodIn_of _ (by decide +kernel)) ggX4_forgets_X4_tenthsToBalk
set_option maxRecDepth 20000 in
theorem ggX4_forgets_X4_tallyMule : GoodIn wsX4_forgets wsX4_tallyMule := goodIn_r _ [64, 1, 68, 69, 70, 71, 72, 73, 74, 75, 76, 77, 78, 79, 80, 81] (by decide +kernel) (by decide +kernel)
set_option maxRecDepth 20000 in
theorem gX4_forgets_X4_tallyMule : GoodIn wsX4_forgets (wsV RX4 206 RX4 yX4_tallyMule wsX4_tallyMule) := goodIn_app (goodIn_of _ (by decide +kernel)) ggX4_forgets_X4_tallyMule
set_option maxRecDepth 20000 in
theorem ggX4_forgets_X4_fractionPart : GoodIn wsX4_forgets wsX4_fractionPart := goodIn_r _ [67] (by decide +kernel) (by decide +kernel)
set_option maxRecDepth 20000 in
theorem gX4_forgets_X4_fractionPart : GoodIn wsX4_forgets (va_wsS RX4 181 yX4_fractionPart wsX4_fractionPart) := goodIn_app (goodIn_of _ (by decide +kernel)) ggX4_forgets_X4_fractionPart
theorem dX4_forgets_0 : decode cX4_forgets 0 = .ok (.iload_n 1, 1) := by decide +kernel
theorem dX4_forgets_1 : decode cX4_forgets 1 = .ok (.invokestatic 185, 3) := by decide +kernel
theorem dX4_forgets_4 : decode cX4_forgets 4 = .ok (.ifCond .eq 22, 3) := by decide +kernel
theorem dX4_forgets_7 : decode cX4_forgets 7 = .ok (.iload_n 2, 1) := by decide +kernel
theorem dX4_forgets_8 : decode cX4_forgets 8 = .ok (.ifCond .lt 18, 3) := by decide +kernel
theorem dX4_forgets_11 : decode cX4_forgets 11 = .ok (.iload_n 2, 1) := by decide +kernel
theorem dX4_forgets_12 : decode cX4_forgets 12 = .ok (.iconst 5, 1) := by decide +kernel
theorem dX4_forgets_13 : decode cX4_forgets 13 = .ok (.if_icmp .gt 13, 3) := by decide +kernel
theorem dX4_forgets_16 : decode cX4_forgets 16 = .ok (.iload_n 3, 1) := by decide +kernel
theorem dX4_forgets_17 : decode cX4_forgets 17 = .ok (.ifCond .lt 9, 3) := by decide +kernel
theorem dX4_forgets_20 : decode cX4_forgets 20 = .ok (.iload_n 3, 1) := by decide +kernel
theorem dX4_forgets_21 : decode cX4_forgets 21 = .ok (.bipush 10, 2) := by decide +kernel
theorem dX4_forgets_23 : decode cX4_forgets 23 = .ok (.if_icmp .le 6, 3) := by decide +kernel
theorem dX4_forgets_26 : decode cX4_forgets 26 = .ok (.bipush (-2), 2) := by decide +kernel
theorem dX4_forgets_28 : decode cX4_forgets 28 = .ok (.ireturn, 1) := by decide +kernel
theorem dX4_forgets_29 : decode cX4_forgets 29 = .ok (.iconst 0, 1) := by decide +kernel
theorem dX4_forgets_30 : decode cX4_forgets 30 = .ok (.istore 5, 2) := by decide +kernel
theorem dX4_forgets_32 : decode cX4_forgets 32 = .ok (.iload 5, 2) := by decide +kernel
theorem dX4_forgets_34 : decode cX4_forgets 34 = .ok (.aload_n 0, 1) := by decide +kernel
theorem dX4_forgets_35 : decode cX4_forgets 35 = .ok (.getfield 65, 3) := by decide +kernel
theorem dX4_forgets_38 : decode cX4_forgets 38 = .ok (.arraylength, 1) := by decide +kernel
theorem dX4_forgets_39 : decode cX4_forgets 39 = .ok (.if_icmp .ge 26, 3) := by decide +kernel
theorem dX4_forgets_42 : decode cX4_forgets 42 = .ok (.aload_n 0, 1) := by decide +kernel
theorem dX4_forgets_43 : decode cX4_forgets 43 = .ok (.getfield 65, 3) := by decide +kernel
theorem dX4_forgets_46 : decode cX4_forgets 46 = .ok (.iload 5, 2) := by decide +kernel
theorem dX4_forgets_48 : decode cX4_forgets 48 = .ok (.iload 5, 2) := by decide +kernel
theorem dX4_forgets_50 : decode cX4_forgets 50 = .ok (.ifCond .ne 7, 3) := by decide +kernel
theorem dX4_forgets_53 : decode cX4_forgets 53 = .ok (.iconst 1, 1) := by decide +kernel
theorem dX4_forgets_54 : decode cX4_forgets 54 = .ok (.goto 4, 3) := by decide +kernel
theorem dX4_forgets_57 : decode cX4_forgets 57 = .ok (.iconst 0, 1) := by decide +kernel
theorem dX4_forgets_58 : decode cX4_forgets 58 = .ok (.iastore, 1) := by decide +kernel
theorem dX4_forgets_59 : decode cX4_forgets 59 = .ok (.iinc 5 1, 3) := by decide +kernel
theorem dX4_forgets_62 : decode cX4_forgets 62 = .ok (.goto (-30), 3) := by decide +kernel
theorem dX4_forgets_65 : decode cX4_forgets 65 = .ok (.iconst 1, 1) := by decide +kernel
theorem dX4_forgets_66 : decode cX4_forgets 66 = .ok (.istore 5, 2) := by decide +kernel
theorem dX4_forgets_68 : decode cX4_forgets 68 = .ok (.iconst 0, 1) := by decide +kernel
theorem dX4_forgets_69 : decode cX4_forgets 69 = .ok (.istore 6, 2) := by decide +kernel
theorem dX4_forgets_71 : decode cX4_forgets 71 = .ok (.iload 6, 2) := by decide +kernel
theorem dX4_forgets_73 : decode cX4_forgets 73 = .ok (.aload_n 0, 1) := by decide +kernel
theorem dX4_forgets_74 : decode cX4_forgets 74 = .ok (.getfield 27, 3) := by decide +kernel
theorem dX4_forgets_77 : decode cX4_forgets 77 = .ok (.if_icmp .ge 28, 3) := by decide +kernel
theorem dX4_forgets_80 : decode cX4_forgets 80 = .ok (.aload_n 0, 1) := by decide +kernel
theorem dX4_forgets_81 : decode cX4_forgets 81 = .ok (.aload_n 0, 1) := by decide +kernel
theorem dX4_forgets_82 : decode cX4_forgets 82 = .ok (.iload 6, 2) := by decide +kernel
theorem dX4_forgets_84 : decode cX4_forgets 84 = .ok (.iload_n 1, 1) := by decide +kernel
theorem dX4_forgets_85 : decode cX4_forgets 85 = .ok (.iload_n 3, 1) := by decide +kernel
theorem dX4_forgets_86 : decode cX4_forgets 86 = .ok (.invokevirtual 202, 3) := by decide +kernel
theorem dX4_forgets_89 : decode cX4_forgets 89 = .ok (.invokevirtual 206, 3) := by decide +kernel
theorem dX4_forgets_92 : decode cX4_forgets 92 = .ok (.iload 5, 2) := by decide +kernel
theorem dX4_forgets_94 : decode cX4_forgets 94 = .ok (.bipush 10, 2) := by decide +kernel
theorem dX4_forgets_96 : decode cX4_forgets 96 = .ok (.imul, 1) := by decide +kernel
theorem dX4_forgets_97 : decode cX4_forgets 97 = .ok (.istore 5, 2) := by decide +kernel
theorem dX4_forgets_99 : decode cX4_forgets 99 = .ok (.iinc 6 1, 3) := by decide +kernel
theorem dX4_forgets_102 : decode cX4_forgets 102 = .ok (.goto (-31), 3) := by decide +kernel
theorem dX4_forgets_105 : decode cX4_forgets 105 = .ok (.iconst 0, 1) := by decide +kernel
theorem dX4_forgets_106 : decode cX4_forgets 106 = .ok (.istore 6, 2) := by decide +kernel
theorem dX4_forgets_108 : decode cX4_forgets 108 = .ok (.iload_n 2, 1) := by decide +kernel
theorem dX4_forgets_109 : decode cX4_forgets 109 = .ok (.istore 7, 2) := by decide +kernel
theorem dX4_forgets_111 : decode cX4_forgets 111 = .ok (.iload 7, 2) := by decide +kernel
theorem dX4_forgets_113 : decode cX4_forgets 113 = .ok (.aload_n 0, 1) := by decide +kernel
theorem dX4_forgets_114 : decode cX4_forgets 114 = .ok (.getfield 65, 3) := by decide +kernel
theorem dX4_forgets_117 : decode cX4_forgets 117 = .ok (.arraylength, 1) := by decide +kernel
theorem dX4_forgets_118 : decode cX4_forgets 118 = .ok (.if_icmp .ge 21, 3) := by decide +kernel
theorem dX4_forgets_121 : decode cX4_forgets 121 = .ok (.iload 6, 2) := by decide +kernel
theorem dX4_forgets_123 : decode cX4_forgets 123 = .ok (.aload_n 0, 1) := by decide +kernel
theorem dX4_forgets_124 : decode cX4_forgets 124 = .ok (.getfield 65, 3) := by decide +kernel
theorem dX4_forgets_127 : decode cX4_forgets 127 = .ok (.iload 7, 2) := by decide +kernel
theorem dX4_forgets_129 : decode cX4_forgets 129 = .ok (.iaload, 1) := by decide +kernel
theorem dX4_forgets_130 : decode cX4_forgets 130 = .ok (.iadd, 1) := by decide +kernel
theorem dX4_forgets_131 : decode cX4_forgets 131 = .ok (.istore 6, 2) := by decide +kernel
theorem dX4_forgets_133 : decode cX4_forgets 133 = .ok (.iinc 7 1, 3) := by decide +kernel
theorem dX4_forgets_136 : decode cX4_forgets 136 = .ok (.goto (-25), 3) := by decide +kernel
theorem dX4_forgets_139 : decode cX4_forgets 139 = .ok (.iload 6, 2) := by decide +kernel
theorem dX4_forgets_141 : decode cX4_forgets 141 = .ok (.iload 5, 2) := by decide +kernel
theorem dX4_forgets_143 : decode cX4_forgets 143 = .ok (.iload 4, 2) := by decide +kernel
theorem dX4_forgets_145 : decode cX4_forgets 145 = .ok (.invokestatic 181, 3) := by decide +kernel
theorem dX4_forgets_148 : decode cX4_forgets 148 = .ok (.ireturn, 1) := by decide +kernel
theorem dX4_seed_0 : decode cX4_seed 0 = .ok (.aload_n 0, 1) := by decide +kernel
theorem dX4_seed_1 : decode cX4_seed 1 = .ok (.getfield 68, 3) := by decide +kernel
theorem dX4_seed_4 : decode cX4_seed 4 = .ok (.lstore_n 3, 1) := by decide +kernel
theorem dX4_seed_5 : decode cX4_seed 5 = .ok (.aload_n 0, 1) := by decide +kernel
theorem dX4_seed_6 : decode cX4_seed 6 = .ok (.lload_n 1, 1) := by decide +kernel
theorem dX4_seed_7 : decode cX4_seed 7 = .ok (.putfield 68, 3) := by decide +kernel
theorem dX4_seed_10 : decode cX4_seed 10 = .ok (.lload_n 3, 1) := by decide +kernel
theorem dX4_seed_11 : decode cX4_seed 11 = .ok (.lreturn, 1) := by decide +kernel
set_option maxRecDepth 20000 in
theorem ggX4_years_X4_copyState : GoodIn wsX4_years wsX4_copyState := goodIn_r _ [10, 94, 95, 96, 97, 98] (by decide +kernel) (by decide +kernel)
set_option maxRecDepth 20000 in
theorem gX4_years_X4_copyState : GoodIn wsX4_years (va_wsS RX4 157 yX4_copyState wsX4_copyState) := goodIn_app (goodIn_of _ (by decide +kernel)) ggX4_years_X4_copyState
set_option maxRecDepth 20000 in
theorem ggX4_years_X4_liveThrough : GoodIn wsX4_years wsX4_liveThrough := goodIn_r _ [14, 15, 16, 17, 9, 18, 19, 20, 21, 22, 23, 24, 25, 26, 27, 28, 29, 30, 31, 32, 33, 34, 35, 36, 37, 38, 39, 40, 41, 42, 43, 44, 45, 46, 47, 48, 49, 50, 51, 52, 53, 54, 55, 56, 57, 58, 59, 60, 61, 62, 63, 64, 65, 66, 67, 68, 69, 70, 71, 72, 73, 74, 75, 76, 77, 78, 79, 94, 95, 96, 97, 98, 80, 81, 82, 83, 84, 85, 86, 87, 88, 89, 90, 91, 92, 93, 99, 100, 101, 102] (by decide +kernel) (by decide +kernel)
set_option maxRecDepth 20000 in
theorem gX4_years_X4_liveThrough : GoodIn wsX4_years (wsV RX4 215 RX4 yX4_liveThrough wsX4_liveThrough) := goodIn_app (goodIn_of _ (by decide +kernel)) ggX4_years_X4_liveThrough
theorem dX4_years_0 : decode cX4_years 0 = .ok (.iload_n 1, 1) := by decide +kernel
theorem dX4_years_1 : decode cX4_years 1 = .ok (.iconst 1, 1) := by decide +kernel
theorem dX4_years_2 : decode cX4_years 2 = .ok (.if_icmp .lt 9, 3) := by decide +kernel
theorem dX4_years_5 : decode cX4_years 5 = .ok (.iload_n 1, 1) := by decide +kernel
theorem dX4_years_6 : decode cX4_years 6 = .ok (.bipush 30, 2) := by decide +kernel
theorem dX4_years_8 : decode cX4_years 8 = .ok (.if_icmp .le 6, 3) := by decide +kernel
theorem dX4_years_11 : decode cX4_years 11 = .ok (.bipush (-2), 2) := by decide +kernel
theorem dX4_years_13 : decode cX4_years 13 = .ok (.ireturn, 1) := by decide +kernel
theorem dX4_years_14 : decode cX4_years 14 = .ok (.aload_n 0, 1) := by decide +kernel
theorem dX4_years_15 : decode cX4_years 15 = .ok (.getfield 34, 3) := by decide +kernel
theorem dX4_years_18 : decode cX4_years 18 = .ok (.aload_n 0, 1) := by decide +kernel
theorem dX4_years_19 : decode cX4_years 19 = .ok (.getfield 38, 3) := by decide +kernel
theorem dX4_years_22 : decode cX4_years 22 = .ok (.invokestatic 157, 3) := by decide +kernel
theorem dX4_years_25 : decode cX4_years 25 = .ok (.iconst 0, 1) := by decide +kernel
theorem dX4_years_26 : decode cX4_years 26 = .ok (.istore_n 2, 1) := by decide +kernel
theorem dX4_years_27 : decode cX4_years 27 = .ok (.iload_n 2, 1) := by decide +kernel
theorem dX4_years_28 : decode cX4_years 28 = .ok (.iload_n 1, 1) := by decide +kernel
theorem dX4_years_29 : decode cX4_years 29 = .ok (.if_icmp .ge 52, 3) := by decide +kernel
theorem dX4_years_32 : decode cX4_years 32 = .ok (.aload_n 0, 1) := by decide +kernel
theorem dX4_years_33 : decode cX4_years 33 = .ok (.aload_n 0, 1) := by decide +kernel
theorem dX4_years_34 : decode cX4_years 34 = .ok (.getfield 68, 3) := by decide +kernel
theorem dX4_years_37 : decode cX4_years 37 = .ok (.ldc2_w 209, 3) := by decide +kernel
theorem dX4_years_40 : decode cX4_years 40 = .ok (.lmul, 1) := by decide +kernel
theorem dX4_years_41 : decode cX4_years 41 = .ok (.ldc2_w 211, 3) := by decide +kernel
theorem dX4_years_44 : decode cX4_years 44 = .ok (.ladd, 1) := by decide +kernel
theorem dX4_years_45 : decode cX4_years 45 = .ok (.putfield 68, 3) := by decide +kernel
theorem dX4_years_48 : decode cX4_years 48 = .ok (.aload_n 0, 1) := by decide +kernel
theorem dX4_years_49 : decode cX4_years 49 = .ok (.getfield 68, 3) := by decide +kernel
theorem dX4_years_52 : decode cX4_years 52 = .ok (.bipush 33, 2) := by decide +kernel
theorem dX4_years_54 : decode cX4_years 54 = .ok (.lushr, 1) := by decide +kernel
theorem dX4_years_55 : decode cX4_years 55 = .ok (.ldc2_w 213, 3) := by decide +kernel
theorem dX4_years_58 : decode cX4_years 58 = .ok (.lrem, 1) := by decide +kernel
theorem dX4_years_59 : decode cX4_years 59 = .ok (.l2i, 1) := by decide +kernel
theorem dX4_years_60 : decode cX4_years 60 = .ok (.istore_n 3, 1) := by decide +kernel
theorem dX4_years_61 : decode cX4_years 61 = .ok (.aload_n 0, 1) := by decide +kernel
theorem dX4_years_62 : decode cX4_years 62 = .ok (.aload_n 0, 1) := by decide +kernel
theorem dX4_years_63 : decode cX4_years 63 = .ok (.getfield 38, 3) := by decide +kernel
theorem dX4_years_66 : decode cX4_years 66 = .ok (.iload_n 3, 1) := by decide +kernel
theorem dX4_years_67 : decode cX4_years 67 = .ok (.iconst 2, 1) := by decide +kernel
theorem dX4_years_68 : decode cX4_years 68 = .ok (.idiv, 1) := by decide +kernel
theorem dX4_years_69 : decode cX4_years 69 = .ok (.iload_n 3, 1) := by decide +kernel
theorem dX4_years_70 : decode cX4_years 70 = .ok (.iconst 2, 1) := by decide +kernel
theorem dX4_years_71 : decode cX4_years 71 = .ok (.irem, 1) := by decide +kernel
theorem dX4_years_72 : decode cX4_years 72 = .ok (.invokevirtual 215, 3) := by decide +kernel
theorem dX4_years_75 : decode cX4_years 75 = .ok (.iinc 2 1, 3) := by decide +kernel
theorem dX4_years_78 : decode cX4_years 78 = .ok (.goto (-51), 3) := by decide +kernel
theorem dX4_years_81 : decode cX4_years 81 = .ok (.aload_n 0, 1) := by decide +kernel
theorem dX4_years_82 : decode cX4_years 82 = .ok (.getfield 38, 3) := by decide +kernel
theorem dX4_years_85 : decode cX4_years 85 = .ok (.getfield 89, 3) := by decide +kernel
theorem dX4_years_88 : decode cX4_years 88 = .ok (.aload_n 0, 1) := by decide +kernel
theorem dX4_years_89 : decode cX4_years 89 = .ok (.getfield 34, 3) := by decide +kernel
theorem dX4_years_92 : decode cX4_years 92 = .ok (.getfield 89, 3) := by decide +kernel
theorem dX4_years_95 : decode cX4_years 95 = .ok (.isub, 1) := by decide +kernel
theorem dX4_years_96 : decode cX4_years 96 = .ok (.ireturn, 1) := by decide +kernel
set_option maxRecDepth 20000 in
theorem ggX4_keep_X4_isSlot : GoodIn wsX4_keep wsX4_isSlot := goodIn_r _ [7] (by decide +kernel) (by decide +kernel)
set_option maxRecDepth 20000 in
theorem gX4_keep_X4_isSlot : GoodIn wsX4_keep (va_wsS RX4 218 yX4_isSlot wsX4_isSlot) := goodIn_app (goodIn_of _ (by decide +kernel)) ggX4_keep_X4_isSlot
set_option maxRecDepth 20000 in
theorem ggX4_keep_X4_copyState : GoodIn wsX4_keep wsX4_copyState := goodIn_r _ [10, 25, 26, 27, 28, 29] (by decide +kernel) (by decide +kernel)
set_option maxRecDepth 20000 in
theorem gX4_keep_X4_copyState : GoodIn wsX4_keep (va_wsS RX4 157 yX4_copyState wsX4_copyState) := goodIn_app (goodIn_of _ (by decide +kernel)) ggX4_keep_X4_copyState
theorem dX4_keep_0 : decode cX4_keep 0 = .ok (.iload_n 1, 1) := by decide +kernel
theorem dX4_keep_1 : decode cX4_keep 1 = .ok (.invokestatic 218, 3) := by decide +kernel
theorem dX4_keep_4 : decode cX4_keep 4 = .ok (.ifCond .ne 5, 3) := by decide +kernel
theorem dX4_keep_7 : decode cX4_keep 7 = .ok (.iconst (-1), 1) := by decide +kernel
theorem dX4_keep_8 : decode cX4_keep 8 = .ok (.ireturn, 1) := by decide +kernel
theorem dX4_keep_9 : decode cX4_keep 9 = .ok (.aload_n 0, 1) := by decide +kernel
theorem dX4_keep_10 : decode cX4_keep 10 = .ok (.getfield 34, 3) := by decide +kernel
theorem dX4_keep_13 : decode cX4_keep 13 = .ok (.aload_n 0, 1) := by decide +kernel
theorem dX4_keep_14 : decode cX4_keep 14 = .ok (.getfield 51, 3) := by decide +kernel
theorem dX4_keep_17 : decode cX4_keep 17 = .ok (.iload_n 1, 1) := by decide +kernel
theorem dX4_keep_18 : decode cX4_keep 18 = .ok (.aaload, 1) := by decide +kernel
theorem dX4_keep_19 : decode cX4_keep 19 = .ok (.invokestatic 157, 3) := by decide +kernel
theorem dX4_keep_22 : decode cX4_keep 22 = .ok (.aload_n 0, 1) := by decide +kernel
theorem dX4_keep_23 : decode cX4_keep 23 = .ok (.getfield 54, 3) := by decide +kernel
theorem dX4_keep_26 : decode cX4_keep 26 = .ok (.iload_n 1, 1) := by decide +kernel
theorem dX4_keep_27 : decode cX4_keep 27 = .ok (.iconst 1, 1) := by decide +kernel
theorem dX4_keep_28 : decode cX4_keep 28 = .ok (.bastore, 1) := by decide +kernel
theorem dX4_keep_29 : decode cX4_keep 29 = .ok (.aload_n 0, 1) := by decide +kernel
theorem dX4_keep_30 : decode cX4_keep 30 = .ok (.getfield 34, 3) := by decide +kernel
theorem dX4_keep_33 : decode cX4_keep 33 = .ok (.getfield 86, 3) := by decide +kernel
theorem dX4_keep_36 : decode cX4_keep 36 = .ok (.ireturn, 1) := by decide +kernel
set_option maxRecDepth 20000 in
theorem ggX4_again_X4_isSlot : GoodIn wsX4_again wsX4_isSlot := goodIn_r _ [8] (by decide +kernel) (by decide +kernel)
set_option maxRecDepth 20000 in
theorem gX4_again_X4_isSlot : GoodIn wsX4_again (va_wsS RX4 218 yX4_isSlot wsX4_isSlot) := goodIn_app (goodIn_of _ (by decide +kernel)) ggX4_again_X4_isSlot
set_option maxRecDepth 20000 in
theorem ggX4_again_X4_copyState : GoodIn wsX4_again wsX4_copyState := goodIn_r _ [11, 26, 27, 28, 29, 30] (by decide +kernel) (by decide +kernel)
set_option maxRecDepth 20000 in
theorem gX4_again_X4_copyState : GoodIn wsX4_again (va_wsS RX4 157 yX4_copyState wsX4_copyState) := goodIn_app (goodIn_of _ (by decide +kernel)) ggX4_again_X4_copyState
theorem dX4_again_0 : decode cX4_again 0 = .ok (.iload_n 1, 1) := by decide +kernel
theorem dX4_again_1 : decode cX4_again 1 = .ok (.invokestatic 218, 3) := by decide +kernel
theorem dX4_again_4 : decode cX4_again 4 = .ok (.ifCond .ne 5, 3) := by decide +kernel
theorem dX4_again_7 : decode cX4_again 7 = .ok (.iconst (-1), 1) := by decide +kernel
theorem dX4_again_8 : decode cX4_again 8 = .ok (.ireturn, 1) := by decide +kernel
theorem dX4_again_9 : decode cX4_again 9 = .ok (.aload_n 0, 1) := by decide +kernel
theorem dX4_again_10 : decode cX4_again 10 = .ok (.getfield 54, 3) := by decide +kernel
theorem dX4_again_13 : decode cX4_again 13 = .ok (.iload_n 1, 1) := by decide +kernel
theorem dX4_again_14 : decode cX4_again 14 = .ok (.baload, 1) := by decide +kernel
theorem dX4_again_15 : decode cX4_again 15 = .ok (.ifCond .ne 6, 3) := by decide +kernel
theorem dX4_again_18 : decode cX4_again 18 = .ok (.bipush (-3), 2) := by decide +kernel
theorem dX4_again_20 : decode cX4_again 20 = .ok (.ireturn, 1) := by decide +kernel
theorem dX4_again_21 : decode cX4_again 21 = .ok (.aload_n 0, 1) := by decide +kernel
theorem dX4_again_22 : decode cX4_again 22 = .ok (.getfield 51, 3) := by decide +kernel
theorem dX4_again_25 : decode cX4_again 25 = .ok (.iload_n 1, 1) := by decide +kernel
theorem dX4_again_26 : decode cX4_again 26 = .ok (.aaload, 1) := by decide +kernel
theorem dX4_again_27 : decode cX4_again 27 = .ok (.aload_n 0, 1) := by decide +kernel
theorem dX4_again_28 : decode cX4_again 28 = .ok (.getfield 34, 3) := by decide +kernel
theorem dX4_again_31 : decode cX4_again 31 = .ok (.invokestatic 157, 3) := by decide +kernel
theorem dX4_again_34 : decode cX4_again 34 = .ok (.aload_n 0, 1) := by decide +kernel
theorem dX4_again_35 : decode cX4_again 35 = .ok (.iconst 0, 1) := by decide +kernel
theorem dX4_again_36 : decode cX4_again 36 = .ok (.putfield 48, 3) := by decide +kernel
theorem dX4_again_39 : decode cX4_again 39 = .ok (.aload_n 0, 1) := by decide +kernel
theorem dX4_again_40 : decode cX4_again 40 = .ok (.getfield 34, 3) := by decide +kernel
theorem dX4_again_43 : decode cX4_again 43 = .ok (.getfield 86, 3) := by decide +kernel
theorem dX4_again_46 : decode cX4_again 46 = .ok (.ireturn, 1) := by decide +kernel
theorem dX4_isMule_0 : decode cX4_isMule 0 = .ok (.iload_n 1, 1) := by decide +kernel
theorem dX4_isMule_1 : decode cX4_isMule 1 = .ok (.ifCond .lt 20, 3) := by decide +kernel
theorem dX4_isMule_4 : decode cX4_isMule 4 = .ok (.iload_n 1, 1) := by decide +kernel
theorem dX4_isMule_5 : decode cX4_isMule 5 = .ok (.aload_n 0, 1) := by decide +kernel
theorem dX4_isMule_6 : decode cX4_isMule 6 = .ok (.getfield 27, 3) := by decide +kernel
theorem dX4_isMule_9 : decode cX4_isMule 9 = .ok (.if_icmp .ge 12, 3) := by decide +kernel
theorem dX4_isMule_12 : decode cX4_isMule 12 = .ok (.iload_n 1, 1) := by decide +kernel
theorem dX4_isMule_13 : decode cX4_isMule 13 = .ok (.iconst 5, 1) := by decide +kernel
theorem dX4_isMule_14 : decode cX4_isMule 14 = .ok (.if_icmp .ge 7, 3) := by decide +kernel
theorem dX4_isMule_17 : decode cX4_isMule 17 = .ok (.iconst 1, 1) := by decide +kernel
theorem dX4_isMule_18 : decode cX4_isMule 18 = .ok (.goto 4, 3) := by decide +kernel
theorem dX4_isMule_21 : decode cX4_isMule 21 = .ok (.iconst 0, 1) := by decide +kernel
theorem dX4_isMule_22 : decode cX4_isMule 22 = .ok (.ireturn, 1) := by decide +kernel
theorem dX4_isArticle_0 : decode cX4_isArticle 0 = .ok (.iload_n 1, 1) := by decide +kernel
theorem dX4_isArticle_1 : decode cX4_isArticle 1 = .ok (.ifCond .lt 23, 3) := by decide +kernel
theorem dX4_isArticle_4 : decode cX4_isArticle 4 = .ok (.iload_n 1, 1) := by decide +kernel
theorem dX4_isArticle_5 : decode cX4_isArticle 5 = .ok (.aload_n 0, 1) := by decide +kernel
theorem dX4_isArticle_6 : decode cX4_isArticle 6 = .ok (.getfield 19, 3) := by decide +kernel
theorem dX4_isArticle_9 : decode cX4_isArticle 9 = .ok (.getfield 83, 3) := by decide +kernel
theorem dX4_isArticle_12 : decode cX4_isArticle 12 = .ok (.if_icmp .ge 12, 3) := by decide +kernel
theorem dX4_isArticle_15 : decode cX4_isArticle 15 = .ok (.iload_n 1, 1) := by decide +kernel
theorem dX4_isArticle_16 : decode cX4_isArticle 16 = .ok (.iconst 5, 1) := by decide +kernel
theorem dX4_isArticle_17 : decode cX4_isArticle 17 = .ok (.if_icmp .ge 7, 3) := by decide +kernel
theorem dX4_isArticle_20 : decode cX4_isArticle 20 = .ok (.iconst 1, 1) := by decide +kernel
theorem dX4_isArticle_21 : decode cX4_isArticle 21 = .ok (.goto 4, 3) := by decide +kernel
theorem dX4_isArticle_24 : decode cX4_isArticle 24 = .ok (.iconst 0, 1) := by decide +kernel
theorem dX4_isArticle_25 : decode cX4_isArticle 25 = .ok (.ireturn, 1) := by decide +kernel
theorem dX4_isStone_0 : decode cX4_isStone 0 = .ok (.iload_n 0, 1) := by decide +kernel
theorem dX4_isStone_1 : decode cX4_isStone 1 = .ok (.ifCond .lt 13, 3) := by decide +kernel
theorem dX4_isStone_4 : decode cX4_isStone 4 = .ok (.iload_n 0, 1) := by decide +kernel
theorem dX4_isStone_5 : decode cX4_isStone 5 = .ok (.bipush 10, 2) := by decide +kernel
theorem dX4_isStone_7 : decode cX4_isStone 7 = .ok (.if_icmp .ge 7, 3) := by decide +kernel
theorem dX4_isStone_10 : decode cX4_isStone 10 = .ok (.iconst 1, 1) := by decide +kernel
theorem dX4_isStone_11 : decode cX4_isStone 11 = .ok (.goto 4, 3) := by decide +kernel
theorem dX4_isStone_14 : decode cX4_isStone 14 = .ok (.iconst 0, 1) := by decide +kernel
theorem dX4_isStone_15 : decode cX4_isStone 15 = .ok (.ireturn, 1) := by decide +kernel
theorem dX4_isSlot_0 : decode cX4_isSlot 0 = .ok (.iload_n 0, 1) := by decide +kernel

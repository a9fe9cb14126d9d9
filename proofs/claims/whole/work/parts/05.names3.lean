theorem dX4_isSlot_1 : decode cX4_isSlot 1 = .ok (.ifCond .lt 12, 3) := by decide +kernel
theorem dX4_isSlot_4 : decode cX4_isSlot 4 = .ok (.iload_n 0, 1) := by decide +kernel
theorem dX4_isSlot_5 : decode cX4_isSlot 5 = .ok (.iconst 2, 1) := by decide +kernel
theorem dX4_isSlot_6 : decode cX4_isSlot 6 = .ok (.if_icmp .ge 7, 3) := by decide +kernel
theorem dX4_isSlot_9 : decode cX4_isSlot 9 = .ok (.iconst 1, 1) := by decide +kernel
theorem dX4_isSlot_10 : decode cX4_isSlot 10 = .ok (.goto 4, 3) := by decide +kernel
theorem dX4_isSlot_13 : decode cX4_isSlot 13 = .ok (.iconst 0, 1) := by decide +kernel
theorem dX4_isSlot_14 : decode cX4_isSlot 14 = .ok (.ireturn, 1) := by decide +kernel
theorem dX4_isFlag_0 : decode cX4_isFlag 0 = .ok (.iload_n 0, 1) := by decide +kernel
theorem dX4_isFlag_1 : decode cX4_isFlag 1 = .ok (.ifCond .eq 8, 3) := by decide +kernel
theorem dX4_isFlag_4 : decode cX4_isFlag 4 = .ok (.iload_n 0, 1) := by decide +kernel
theorem dX4_isFlag_5 : decode cX4_isFlag 5 = .ok (.iconst 1, 1) := by decide +kernel
theorem dX4_isFlag_6 : decode cX4_isFlag 6 = .ok (.if_icmp .ne 7, 3) := by decide +kernel
theorem dX4_isFlag_9 : decode cX4_isFlag 9 = .ok (.iconst 1, 1) := by decide +kernel
theorem dX4_isFlag_10 : decode cX4_isFlag 10 = .ok (.goto 4, 3) := by decide +kernel
theorem dX4_isFlag_13 : decode cX4_isFlag 13 = .ok (.iconst 0, 1) := by decide +kernel
theorem dX4_isFlag_14 : decode cX4_isFlag 14 = .ok (.ireturn, 1) := by decide +kernel
theorem dX4_firstOf_0 : decode cX4_firstOf 0 = .ok (.iconst 0, 1) := by decide +kernel
theorem dX4_firstOf_1 : decode cX4_firstOf 1 = .ok (.istore_n 1, 1) := by decide +kernel
theorem dX4_firstOf_2 : decode cX4_firstOf 2 = .ok (.iload_n 1, 1) := by decide +kernel
theorem dX4_firstOf_3 : decode cX4_firstOf 3 = .ok (.iconst 5, 1) := by decide +kernel
theorem dX4_firstOf_4 : decode cX4_firstOf 4 = .ok (.if_icmp .ge 19, 3) := by decide +kernel
theorem dX4_firstOf_7 : decode cX4_firstOf 7 = .ok (.iload_n 0, 1) := by decide +kernel
theorem dX4_firstOf_8 : decode cX4_firstOf 8 = .ok (.iload_n 1, 1) := by decide +kernel
theorem dX4_firstOf_9 : decode cX4_firstOf 9 = .ok (.ishr, 1) := by decide +kernel
theorem dX4_firstOf_10 : decode cX4_firstOf 10 = .ok (.iconst 1, 1) := by decide +kernel
theorem dX4_firstOf_11 : decode cX4_firstOf 11 = .ok (.iand, 1) := by decide +kernel
theorem dX4_firstOf_12 : decode cX4_firstOf 12 = .ok (.ifCond .eq 5, 3) := by decide +kernel
theorem dX4_firstOf_15 : decode cX4_firstOf 15 = .ok (.iload_n 1, 1) := by decide +kernel
theorem dX4_firstOf_16 : decode cX4_firstOf 16 = .ok (.ireturn, 1) := by decide +kernel
theorem dX4_firstOf_17 : decode cX4_firstOf 17 = .ok (.iinc 1 1, 3) := by decide +kernel
theorem dX4_firstOf_20 : decode cX4_firstOf 20 = .ok (.goto (-18), 3) := by decide +kernel
theorem dX4_firstOf_23 : decode cX4_firstOf 23 = .ok (.bipush (-9), 2) := by decide +kernel
theorem dX4_firstOf_25 : decode cX4_firstOf 25 = .ok (.ireturn, 1) := by decide +kernel
set_option maxRecDepth 20000 in
theorem ggX4_readPart_X3_figure : GoodIn wsX4_readPart wsX3_figure := goodIn_r _ [9, 10, 11, 12, 7, 13, 14, 15, 43, 44] (by decide +kernel) (by decide +kernel)
set_option maxRecDepth 20000 in
theorem gX4_readPart_X3_figure_n221 : GoodIn wsX4_readPart (wsX3_figure) := ggX4_readPart_X3_figure
set_option maxRecDepth 20000 in
theorem ggX4_readPart_X3_letter : GoodIn wsX4_readPart wsX3_letter := goodIn_r _ [13, 14, 15, 43, 44] (by decide +kernel) (by decide +kernel)
set_option maxRecDepth 20000 in
theorem gX4_readPart_X3_letter_n224 : GoodIn wsX4_readPart (wsX3_letter) := ggX4_readPart_X3_letter
set_option maxRecDepth 20000 in
theorem ggX4_readPart_X0_add : GoodIn wsX4_readPart wsX0_add := goodIn_r _ [19, 20, 21, 22, 23, 45, 46, 47, 48] (by decide +kernel) (by decide +kernel)
set_option maxRecDepth 20000 in
theorem gX4_readPart_X0_add_n227 : GoodIn wsX4_readPart (wsX0_add) := ggX4_readPart_X0_add
theorem dX4_readPart_0 : decode cX4_readPart 0 = .ok (.aload_n 0, 1) := by decide +kernel
theorem dX4_readPart_1 : decode cX4_readPart 1 = .ok (.getfield 10, 3) := by decide +kernel
theorem dX4_readPart_4 : decode cX4_readPart 4 = .ok (.iload_n 1, 1) := by decide +kernel
theorem dX4_readPart_5 : decode cX4_readPart 5 = .ok (.iconst 1, 1) := by decide +kernel
theorem dX4_readPart_6 : decode cX4_readPart 6 = .ok (.iadd, 1) := by decide +kernel
theorem dX4_readPart_7 : decode cX4_readPart 7 = .ok (.invokevirtual 221, 3) := by decide +kernel
theorem dX4_readPart_10 : decode cX4_readPart 10 = .ok (.istore_n 2, 1) := by decide +kernel
theorem dX4_readPart_11 : decode cX4_readPart 11 = .ok (.aload_n 0, 1) := by decide +kernel
theorem dX4_readPart_12 : decode cX4_readPart 12 = .ok (.getfield 10, 3) := by decide +kernel
theorem dX4_readPart_15 : decode cX4_readPart 15 = .ok (.iload_n 1, 1) := by decide +kernel
theorem dX4_readPart_16 : decode cX4_readPart 16 = .ok (.iconst 2, 1) := by decide +kernel
theorem dX4_readPart_17 : decode cX4_readPart 17 = .ok (.iadd, 1) := by decide +kernel
theorem dX4_readPart_18 : decode cX4_readPart 18 = .ok (.invokevirtual 221, 3) := by decide +kernel
theorem dX4_readPart_21 : decode cX4_readPart 21 = .ok (.istore_n 3, 1) := by decide +kernel
theorem dX4_readPart_22 : decode cX4_readPart 22 = .ok (.aload_n 0, 1) := by decide +kernel
theorem dX4_readPart_23 : decode cX4_readPart 23 = .ok (.getfield 10, 3) := by decide +kernel
theorem dX4_readPart_26 : decode cX4_readPart 26 = .ok (.iload_n 1, 1) := by decide +kernel
theorem dX4_readPart_27 : decode cX4_readPart 27 = .ok (.iconst 3, 1) := by decide +kernel
theorem dX4_readPart_28 : decode cX4_readPart 28 = .ok (.iadd, 1) := by decide +kernel
theorem dX4_readPart_29 : decode cX4_readPart 29 = .ok (.invokevirtual 221, 3) := by decide +kernel
theorem dX4_readPart_32 : decode cX4_readPart 32 = .ok (.istore 4, 2) := by decide +kernel
theorem dX4_readPart_34 : decode cX4_readPart 34 = .ok (.aload_n 0, 1) := by decide +kernel
theorem dX4_readPart_35 : decode cX4_readPart 35 = .ok (.getfield 10, 3) := by decide +kernel
theorem dX4_readPart_38 : decode cX4_readPart 38 = .ok (.iload_n 1, 1) := by decide +kernel
theorem dX4_readPart_39 : decode cX4_readPart 39 = .ok (.invokevirtual 224, 3) := by decide +kernel
theorem dX4_readPart_42 : decode cX4_readPart 42 = .ok (.bipush 65, 2) := by decide +kernel
theorem dX4_readPart_44 : decode cX4_readPart 44 = .ok (.if_icmp .ne 17, 3) := by decide +kernel
theorem dX4_readPart_47 : decode cX4_readPart 47 = .ok (.aload_n 0, 1) := by decide +kernel
theorem dX4_readPart_48 : decode cX4_readPart 48 = .ok (.getfield 19, 3) := by decide +kernel
theorem dX4_readPart_51 : decode cX4_readPart 51 = .ok (.iload_n 2, 1) := by decide +kernel
theorem dX4_readPart_52 : decode cX4_readPart 52 = .ok (.iload_n 3, 1) := by decide +kernel
theorem dX4_readPart_53 : decode cX4_readPart 53 = .ok (.iload 4, 2) := by decide +kernel
theorem dX4_readPart_55 : decode cX4_readPart 55 = .ok (.invokevirtual 227, 3) := by decide +kernel
theorem dX4_readPart_58 : decode cX4_readPart 58 = .ok (.goto 71, 3) := by decide +kernel
theorem dX4_readPart_61 : decode cX4_readPart 61 = .ok (.aload_n 0, 1) := by decide +kernel
theorem dX4_readPart_62 : decode cX4_readPart 62 = .ok (.getfield 27, 3) := by decide +kernel
theorem dX4_readPart_65 : decode cX4_readPart 65 = .ok (.iconst 5, 1) := by decide +kernel
theorem dX4_readPart_66 : decode cX4_readPart 66 = .ok (.if_icmp .ge 63, 3) := by decide +kernel
theorem dX4_readPart_69 : decode cX4_readPart 69 = .ok (.aload_n 0, 1) := by decide +kernel
theorem dX4_readPart_70 : decode cX4_readPart 70 = .ok (.getfield 34, 3) := by decide +kernel
theorem dX4_readPart_73 : decode cX4_readPart 73 = .ok (.getfield 116, 3) := by decide +kernel
theorem dX4_readPart_76 : decode cX4_readPart 76 = .ok (.aload_n 0, 1) := by decide +kernel
theorem dX4_readPart_77 : decode cX4_readPart 77 = .ok (.getfield 27, 3) := by decide +kernel
theorem dX4_readPart_80 : decode cX4_readPart 80 = .ok (.iload_n 2, 1) := by decide +kernel
theorem dX4_readPart_81 : decode cX4_readPart 81 = .ok (.iastore, 1) := by decide +kernel
theorem dX4_readPart_82 : decode cX4_readPart 82 = .ok (.aload_n 0, 1) := by decide +kernel
theorem dX4_readPart_83 : decode cX4_readPart 83 = .ok (.getfield 34, 3) := by decide +kernel
theorem dX4_readPart_86 : decode cX4_readPart 86 = .ok (.getfield 117, 3) := by decide +kernel
theorem dX4_readPart_89 : decode cX4_readPart 89 = .ok (.aload_n 0, 1) := by decide +kernel
theorem dX4_readPart_90 : decode cX4_readPart 90 = .ok (.getfield 27, 3) := by decide +kernel
theorem dX4_readPart_93 : decode cX4_readPart 93 = .ok (.iload 4, 2) := by decide +kernel
theorem dX4_readPart_95 : decode cX4_readPart 95 = .ok (.iastore, 1) := by decide +kernel
theorem dX4_readPart_96 : decode cX4_readPart 96 = .ok (.aload_n 0, 1) := by decide +kernel
theorem dX4_readPart_97 : decode cX4_readPart 97 = .ok (.getfield 34, 3) := by decide +kernel
theorem dX4_readPart_100 : decode cX4_readPart 100 = .ok (.getfield 120, 3) := by decide +kernel
theorem dX4_readPart_103 : decode cX4_readPart 103 = .ok (.aload_n 0, 1) := by decide +kernel
theorem dX4_readPart_104 : decode cX4_readPart 104 = .ok (.getfield 27, 3) := by decide +kernel
theorem dX4_readPart_107 : decode cX4_readPart 107 = .ok (.iconst 0, 1) := by decide +kernel
theorem dX4_readPart_108 : decode cX4_readPart 108 = .ok (.iastore, 1) := by decide +kernel
theorem dX4_readPart_109 : decode cX4_readPart 109 = .ok (.aload_n 0, 1) := by decide +kernel
theorem dX4_readPart_110 : decode cX4_readPart 110 = .ok (.getfield 23, 3) := by decide +kernel
theorem dX4_readPart_113 : decode cX4_readPart 113 = .ok (.aload_n 0, 1) := by decide +kernel
theorem dX4_readPart_114 : decode cX4_readPart 114 = .ok (.getfield 27, 3) := by decide +kernel
theorem dX4_readPart_117 : decode cX4_readPart 117 = .ok (.iload_n 3, 1) := by decide +kernel
theorem dX4_readPart_118 : decode cX4_readPart 118 = .ok (.iastore, 1) := by decide +kernel
theorem dX4_readPart_119 : decode cX4_readPart 119 = .ok (.aload_n 0, 1) := by decide +kernel
theorem dX4_readPart_120 : decode cX4_readPart 120 = .ok (.dup, 1) := by decide +kernel
theorem dX4_readPart_121 : decode cX4_readPart 121 = .ok (.getfield 27, 3) := by decide +kernel
theorem dX4_readPart_124 : decode cX4_readPart 124 = .ok (.iconst 1, 1) := by decide +kernel
theorem dX4_readPart_125 : decode cX4_readPart 125 = .ok (.iadd, 1) := by decide +kernel
theorem dX4_readPart_126 : decode cX4_readPart 126 = .ok (.putfield 27, 3) := by decide +kernel
theorem dX4_readPart_129 : decode cX4_readPart 129 = .ok (.return_, 1) := by decide +kernel
set_option maxRecDepth 20000 in
theorem ggX4_known_X4_isMule : GoodIn wsX4_known wsX4_isMule := goodIn_r _ [5, 6, 25, 26, 27, 28, 29, 30, 31, 32, 33, 34, 35, 36, 37, 38] (by decide +kernel) (by decide +kernel)
set_option maxRecDepth 20000 in
theorem gX4_known_X4_isMule : GoodIn wsX4_known (wsV RX4 113 RX4 yX4_isMule wsX4_isMule) := goodIn_app (goodIn_of _ (by decide +kernel)) ggX4_known_X4_isMule
set_option maxRecDepth 20000 in
theorem ggX4_known_X4_knownIfShown : GoodIn wsX4_known wsX4_knownIfShown := goodIn_r _ [10, 11, 12, 13, 14, 15, 16, 17, 18, 19, 25, 26, 27, 28, 29, 30, 31, 32, 33, 34, 35, 36, 37, 38, 39, 40, 41, 42] (by decide +kernel) (by decide +kernel)
set_option maxRecDepth 20000 in
theorem gX4_known_X4_knownIfShown : GoodIn wsX4_known (wsV RX4 230 RX4 yX4_knownIfShown wsX4_knownIfShown) := goodIn_app (goodIn_of _ (by decide +kernel)) ggX4_known_X4_knownIfShown
theorem dX4_known_0 : decode cX4_known 0 = .ok (.aload_n 0, 1) := by decide +kernel
theorem dX4_known_1 : decode cX4_known 1 = .ok (.iload_n 2, 1) := by decide +kernel
theorem dX4_known_2 : decode cX4_known 2 = .ok (.invokevirtual 113, 3) := by decide +kernel
theorem dX4_known_5 : decode cX4_known 5 = .ok (.ifCond .eq 22, 3) := by decide +kernel
theorem dX4_known_8 : decode cX4_known 8 = .ok (.aload_n 0, 1) := by decide +kernel
theorem dX4_known_9 : decode cX4_known 9 = .ok (.aload_n 1, 1) := by decide +kernel
theorem dX4_known_10 : decode cX4_known 10 = .ok (.getfield 117, 3) := by decide +kernel
theorem dX4_known_13 : decode cX4_known 13 = .ok (.iload_n 2, 1) := by decide +kernel
theorem dX4_known_14 : decode cX4_known 14 = .ok (.iaload, 1) := by decide +kernel
theorem dX4_known_15 : decode cX4_known 15 = .ok (.aload_n 1, 1) := by decide +kernel
theorem dX4_known_16 : decode cX4_known 16 = .ok (.getfield 120, 3) := by decide +kernel
theorem dX4_known_19 : decode cX4_known 19 = .ok (.iload_n 2, 1) := by decide +kernel
theorem dX4_known_20 : decode cX4_known 20 = .ok (.iaload, 1) := by decide +kernel
theorem dX4_known_21 : decode cX4_known 21 = .ok (.invokevirtual 230, 3) := by decide +kernel
theorem dX4_known_24 : decode cX4_known 24 = .ok (.goto 4, 3) := by decide +kernel
theorem dX4_known_27 : decode cX4_known 27 = .ok (.iconst 0, 1) := by decide +kernel
theorem dX4_known_28 : decode cX4_known 28 = .ok (.ireturn, 1) := by decide +kernel
set_option maxRecDepth 20000 in
theorem ggX4_knownIfShown_X0_all : GoodIn wsX4_knownIfShown wsX0_all := goodIn_r _ [5, 6, 24, 25, 26, 27] (by decide +kernel) (by decide +kernel)
set_option maxRecDepth 20000 in
theorem gX4_knownIfShown_X0_all_n164 : GoodIn wsX4_knownIfShown (wsX0_all) := ggX4_knownIfShown_X0_all
set_option maxRecDepth 20000 in
theorem ggX4_knownIfShown_X0_last : GoodIn wsX4_knownIfShown wsX0_last := goodIn_r _ [9, 6, 24, 25, 26, 27] (by decide +kernel) (by decide +kernel)
set_option maxRecDepth 20000 in
theorem gX4_knownIfShown_X0_last_n233 : GoodIn wsX4_knownIfShown (wsX0_last) := ggX4_knownIfShown_X0_last
theorem dX4_knownIfShown_0 : decode cX4_knownIfShown 0 = .ok (.aload_n 0, 1) := by decide +kernel
theorem dX4_knownIfShown_1 : decode cX4_knownIfShown 1 = .ok (.getfield 19, 3) := by decide +kernel
theorem dX4_knownIfShown_4 : decode cX4_knownIfShown 4 = .ok (.invokevirtual 164, 3) := by decide +kernel
theorem dX4_knownIfShown_7 : decode cX4_knownIfShown 7 = .ok (.istore_n 3, 1) := by decide +kernel
theorem dX4_knownIfShown_8 : decode cX4_knownIfShown 8 = .ok (.iload_n 1, 1) := by decide +kernel
theorem dX4_knownIfShown_9 : decode cX4_knownIfShown 9 = .ok (.tableswitch 50 0 3 #[31, 38, 40, 42], 31) := by decide +kernel
theorem dX4_knownIfShown_40 : decode cX4_knownIfShown 40 = .ok (.iload_n 2, 1) := by decide +kernel
theorem dX4_knownIfShown_41 : decode cX4_knownIfShown 41 = .ok (.bipush 21, 2) := by decide +kernel
theorem dX4_knownIfShown_43 : decode cX4_knownIfShown 43 = .ok (.iload_n 3, 1) := by decide +kernel
theorem dX4_knownIfShown_44 : decode cX4_knownIfShown 44 = .ok (.iand, 1) := by decide +kernel
theorem dX4_knownIfShown_45 : decode cX4_knownIfShown 45 = .ok (.ior, 1) := by decide +kernel
theorem dX4_knownIfShown_46 : decode cX4_knownIfShown 46 = .ok (.ireturn, 1) := by decide +kernel
theorem dX4_knownIfShown_47 : decode cX4_knownIfShown 47 = .ok (.iload_n 3, 1) := by decide +kernel
theorem dX4_knownIfShown_48 : decode cX4_knownIfShown 48 = .ok (.ireturn, 1) := by decide +kernel
theorem dX4_knownIfShown_49 : decode cX4_knownIfShown 49 = .ok (.iload_n 2, 1) := by decide +kernel
theorem dX4_knownIfShown_50 : decode cX4_knownIfShown 50 = .ok (.ireturn, 1) := by decide +kernel
theorem dX4_knownIfShown_51 : decode cX4_knownIfShown 51 = .ok (.aload_n 0, 1) := by decide +kernel
theorem dX4_knownIfShown_52 : decode cX4_knownIfShown 52 = .ok (.getfield 19, 3) := by decide +kernel
theorem dX4_knownIfShown_55 : decode cX4_knownIfShown 55 = .ok (.invokevirtual 233, 3) := by decide +kernel
theorem dX4_knownIfShown_58 : decode cX4_knownIfShown 58 = .ok (.ireturn, 1) := by decide +kernel
theorem dX4_knownIfShown_59 : decode cX4_knownIfShown 59 = .ok (.iconst 0, 1) := by decide +kernel
theorem dX4_knownIfShown_60 : decode cX4_knownIfShown 60 = .ok (.ireturn, 1) := by decide +kernel
set_option maxRecDepth 20000 in
theorem ggX4_mulesThatKnow_X4_known : GoodIn wsX4_mulesThatKnow wsX4_known := goodIn_r _ [7, 8, 9, 10, 6, 11, 1, 12, 13, 14, 15, 16, 17, 18, 19, 20, 21, 22, 23, 24, 39, 40, 41, 42, 43, 25, 26, 27, 28, 29, 30, 31, 32, 33, 34, 35, 36, 37, 38, 44, 45, 46, 47] (by decide +kernel) (by decide +kernel)
set_option maxRecDepth 20000 in
theorem gX4_mulesThatKnow_X4_known : GoodIn wsX4_mulesThatKnow (wsV RX4 123 RX4 yX4_known wsX4_known) := goodIn_app (goodIn_of _ (by decide +kernel)) ggX4_mulesThatKnow_X4_known
theorem dX4_mulesThatKnow_0 : decode cX4_mulesThatKnow 0 = .ok (.iconst 0, 1) := by decide +kernel
theorem dX4_mulesThatKnow_1 : decode cX4_mulesThatKnow 1 = .ok (.istore_n 2, 1) := by decide +kernel
theorem dX4_mulesThatKnow_2 : decode cX4_mulesThatKnow 2 = .ok (.iconst 0, 1) := by decide +kernel
theorem dX4_mulesThatKnow_3 : decode cX4_mulesThatKnow 3 = .ok (.istore_n 3, 1) := by decide +kernel
theorem dX4_mulesThatKnow_4 : decode cX4_mulesThatKnow 4 = .ok (.iload_n 3, 1) := by decide +kernel
theorem dX4_mulesThatKnow_5 : decode cX4_mulesThatKnow 5 = .ok (.aload_n 0, 1) := by decide +kernel
theorem dX4_mulesThatKnow_6 : decode cX4_mulesThatKnow 6 = .ok (.getfield 27, 3) := by decide +kernel
theorem dX4_mulesThatKnow_9 : decode cX4_mulesThatKnow 9 = .ok (.if_icmp .ge 31, 3) := by decide +kernel
theorem dX4_mulesThatKnow_12 : decode cX4_mulesThatKnow 12 = .ok (.aload_n 0, 1) := by decide +kernel
theorem dX4_mulesThatKnow_13 : decode cX4_mulesThatKnow 13 = .ok (.aload_n 0, 1) := by decide +kernel
theorem dX4_mulesThatKnow_14 : decode cX4_mulesThatKnow 14 = .ok (.getfield 34, 3) := by decide +kernel
theorem dX4_mulesThatKnow_17 : decode cX4_mulesThatKnow 17 = .ok (.iload_n 3, 1) := by decide +kernel
theorem dX4_mulesThatKnow_18 : decode cX4_mulesThatKnow 18 = .ok (.invokevirtual 123, 3) := by decide +kernel
theorem dX4_mulesThatKnow_21 : decode cX4_mulesThatKnow 21 = .ok (.iload_n 1, 1) := by decide +kernel
theorem dX4_mulesThatKnow_22 : decode cX4_mulesThatKnow 22 = .ok (.ishr, 1) := by decide +kernel
theorem dX4_mulesThatKnow_23 : decode cX4_mulesThatKnow 23 = .ok (.iconst 1, 1) := by decide +kernel
theorem dX4_mulesThatKnow_24 : decode cX4_mulesThatKnow 24 = .ok (.iand, 1) := by decide +kernel
theorem dX4_mulesThatKnow_25 : decode cX4_mulesThatKnow 25 = .ok (.ifCond .eq 9, 3) := by decide +kernel
theorem dX4_mulesThatKnow_28 : decode cX4_mulesThatKnow 28 = .ok (.iload_n 2, 1) := by decide +kernel
theorem dX4_mulesThatKnow_29 : decode cX4_mulesThatKnow 29 = .ok (.iconst 1, 1) := by decide +kernel
theorem dX4_mulesThatKnow_30 : decode cX4_mulesThatKnow 30 = .ok (.iload_n 3, 1) := by decide +kernel
theorem dX4_mulesThatKnow_31 : decode cX4_mulesThatKnow 31 = .ok (.ishl, 1) := by decide +kernel
theorem dX4_mulesThatKnow_32 : decode cX4_mulesThatKnow 32 = .ok (.ior, 1) := by decide +kernel
theorem dX4_mulesThatKnow_33 : decode cX4_mulesThatKnow 33 = .ok (.istore_n 2, 1) := by decide +kernel
theorem dX4_mulesThatKnow_34 : decode cX4_mulesThatKnow 34 = .ok (.iinc 3 1, 3) := by decide +kernel
theorem dX4_mulesThatKnow_37 : decode cX4_mulesThatKnow 37 = .ok (.goto (-33), 3) := by decide +kernel
theorem dX4_mulesThatKnow_40 : decode cX4_mulesThatKnow 40 = .ok (.iload_n 2, 1) := by decide +kernel
theorem dX4_mulesThatKnow_41 : decode cX4_mulesThatKnow 41 = .ok (.ireturn, 1) := by decide +kernel
set_option maxRecDepth 20000 in
theorem ggX4_stepRefusal_X4_isMule : GoodIn wsX4_stepRefusal wsX4_isMule := goodIn_r _ [6, 7, 17, 18, 19, 20, 21, 22, 23, 24, 25, 26, 27, 28, 29, 30] (by decide +kernel) (by decide +kernel)
set_option maxRecDepth 20000 in
theorem gX4_stepRefusal_X4_isMule : GoodIn wsX4_stepRefusal (wsV RX4 113 RX4 yX4_isMule wsX4_isMule) := goodIn_app (goodIn_of _ (by decide +kernel)) ggX4_stepRefusal_X4_isMule
set_option maxRecDepth 20000 in
theorem ggX4_stepRefusal_X4_isFlag : GoodIn wsX4_stepRefusal wsX4_isFlag := goodIn_r _ [10] (by decide +kernel) (by decide +kernel)
set_option maxRecDepth 20000 in
theorem gX4_stepRefusal_X4_isFlag : GoodIn wsX4_stepRefusal (va_wsS RX4 185 yX4_isFlag wsX4_isFlag) := goodIn_app (goodIn_of _ (by decide +kernel)) ggX4_stepRefusal_X4_isFlag
set_option maxRecDepth 20000 in
theorem ggX4_stepRefusal_X4_nextStone : GoodIn wsX4_stepRefusal wsX4_nextStone := goodIn_r _ [13] (by decide +kernel) (by decide +kernel)
set_option maxRecDepth 20000 in
theorem gX4_stepRefusal_X4_nextStone : GoodIn wsX4_stepRefusal (va_wsS RX4 236 yX4_nextStone wsX4_nextStone) := goodIn_app (goodIn_of _ (by decide +kernel)) ggX4_stepRefusal_X4_nextStone
set_option maxRecDepth 20000 in
theorem ggX4_stepRefusal_X4_isStone : GoodIn wsX4_stepRefusal wsX4_isStone := goodIn_r _ [16] (by decide +kernel) (by decide +kernel)
set_option maxRecDepth 20000 in
theorem gX4_stepRefusal_X4_isStone : GoodIn wsX4_stepRefusal (va_wsS RX4 161 yX4_isStone wsX4_isStone) := goodIn_app (goodIn_of _ (by decide +kernel)) ggX4_stepRefusal_X4_isStone
theorem dX4_stepRefusal_0 : decode cX4_stepRefusal 0 = .ok (.aload_n 0, 1) := by decide +kernel
theorem dX4_stepRefusal_1 : decode cX4_stepRefusal 1 = .ok (.iload_n 1, 1) := by decide +kernel
theorem dX4_stepRefusal_2 : decode cX4_stepRefusal 2 = .ok (.invokevirtual 113, 3) := by decide +kernel
theorem dX4_stepRefusal_5 : decode cX4_stepRefusal 5 = .ok (.ifCond .ne 5, 3) := by decide +kernel
theorem dX4_stepRefusal_8 : decode cX4_stepRefusal 8 = .ok (.iconst (-1), 1) := by decide +kernel
theorem dX4_stepRefusal_9 : decode cX4_stepRefusal 9 = .ok (.ireturn, 1) := by decide +kernel
theorem dX4_stepRefusal_10 : decode cX4_stepRefusal 10 = .ok (.iload_n 2, 1) := by decide +kernel
theorem dX4_stepRefusal_11 : decode cX4_stepRefusal 11 = .ok (.invokestatic 185, 3) := by decide +kernel
theorem dX4_stepRefusal_14 : decode cX4_stepRefusal 14 = .ok (.ifCond .ne 6, 3) := by decide +kernel
theorem dX4_stepRefusal_17 : decode cX4_stepRefusal 17 = .ok (.bipush (-2), 2) := by decide +kernel
theorem dX4_stepRefusal_19 : decode cX4_stepRefusal 19 = .ok (.ireturn, 1) := by decide +kernel
theorem dX4_stepRefusal_20 : decode cX4_stepRefusal 20 = .ok (.aload_n 0, 1) := by decide +kernel
theorem dX4_stepRefusal_21 : decode cX4_stepRefusal 21 = .ok (.getfield 34, 3) := by decide +kernel
theorem dX4_stepRefusal_24 : decode cX4_stepRefusal 24 = .ok (.getfield 116, 3) := by decide +kernel
theorem dX4_stepRefusal_27 : decode cX4_stepRefusal 27 = .ok (.iload_n 1, 1) := by decide +kernel
theorem dX4_stepRefusal_28 : decode cX4_stepRefusal 28 = .ok (.iaload, 1) := by decide +kernel
theorem dX4_stepRefusal_29 : decode cX4_stepRefusal 29 = .ok (.iload_n 2, 1) := by decide +kernel
theorem dX4_stepRefusal_30 : decode cX4_stepRefusal 30 = .ok (.invokestatic 236, 3) := by decide +kernel
theorem dX4_stepRefusal_33 : decode cX4_stepRefusal 33 = .ok (.invokestatic 161, 3) := by decide +kernel
theorem dX4_stepRefusal_36 : decode cX4_stepRefusal 36 = .ok (.ifCond .eq 7, 3) := by decide +kernel
theorem dX4_stepRefusal_39 : decode cX4_stepRefusal 39 = .ok (.iconst 0, 1) := by decide +kernel
theorem dX4_stepRefusal_40 : decode cX4_stepRefusal 40 = .ok (.goto 5, 3) := by decide +kernel
theorem dX4_stepRefusal_43 : decode cX4_stepRefusal 43 = .ok (.bipush (-3), 2) := by decide +kernel
theorem dX4_stepRefusal_45 : decode cX4_stepRefusal 45 = .ok (.ireturn, 1) := by decide +kernel
theorem dX4_nextStone_0 : decode cX4_nextStone 0 = .ok (.iload_n 1, 1) := by decide +kernel
theorem dX4_nextStone_1 : decode cX4_nextStone 1 = .ok (.iconst 1, 1) := by decide +kernel
theorem dX4_nextStone_2 : decode cX4_nextStone 2 = .ok (.if_icmp .ne 9, 3) := by decide +kernel
theorem dX4_nextStone_5 : decode cX4_nextStone 5 = .ok (.iload_n 0, 1) := by decide +kernel
theorem dX4_nextStone_6 : decode cX4_nextStone 6 = .ok (.iconst 1, 1) := by decide +kernel
theorem dX4_nextStone_7 : decode cX4_nextStone 7 = .ok (.iadd, 1) := by decide +kernel
theorem dX4_nextStone_8 : decode cX4_nextStone 8 = .ok (.goto 6, 3) := by decide +kernel
theorem dX4_nextStone_11 : decode cX4_nextStone 11 = .ok (.iload_n 0, 1) := by decide +kernel
theorem dX4_nextStone_12 : decode cX4_nextStone 12 = .ok (.iconst 1, 1) := by decide +kernel
theorem dX4_nextStone_13 : decode cX4_nextStone 13 = .ok (.isub, 1) := by decide +kernel
theorem dX4_nextStone_14 : decode cX4_nextStone 14 = .ok (.ireturn, 1) := by decide +kernel
set_option maxRecDepth 20000 in
theorem ggX4_forbidders_X4_isMule : GoodIn wsX4_forbidders wsX4_isMule := goodIn_r _ [5, 6, 39, 40, 41, 42, 43, 44, 45, 46, 47, 48, 49, 50, 51, 52] (by decide +kernel) (by decide +kernel)
set_option maxRecDepth 20000 in
theorem gX4_forbidders_X4_isMule : GoodIn wsX4_forbidders (wsV RX4 113 RX4 yX4_isMule wsX4_isMule) := goodIn_app (goodIn_of _ (by decide +kernel)) ggX4_forbidders_X4_isMule
set_option maxRecDepth 20000 in
theorem ggX4_forbidders_X4_forbiddersFrom : GoodIn wsX4_forbidders wsX4_forbiddersFrom := goodIn_r _ [10, 11, 12, 13, 14, 4, 15, 1, 2, 3, 5, 6, 16, 17, 18, 19, 20, 21, 22, 23, 24, 25, 26, 27, 28, 29, 30, 31, 32, 33, 39, 40, 41, 42, 43, 44, 45, 46, 47, 48, 49, 50, 51, 52, 53, 54, 55, 56, 34, 35, 36, 37, 38] (by decide +kernel) (by decide +kernel)
set_option maxRecDepth 20000 in
theorem gX4_forbidders_X4_forbiddersFrom : GoodIn wsX4_forbidders (wsV RX4 239 RX4 yX4_forbiddersFrom wsX4_forbiddersFrom) := goodIn_app (goodIn_of _ (by decide +kernel)) ggX4_forbidders_X4_forbiddersFrom
theorem dX4_forbidders_0 : decode cX4_forbidders 0 = .ok (.aload_n 0, 1) := by decide +kernel
theorem dX4_forbidders_1 : decode cX4_forbidders 1 = .ok (.iload_n 2, 1) := by decide +kernel
theorem dX4_forbidders_2 : decode cX4_forbidders 2 = .ok (.invokevirtual 113, 3) := by decide +kernel
theorem dX4_forbidders_5 : decode cX4_forbidders 5 = .ok (.ifCond .ne 5, 3) := by decide +kernel
theorem dX4_forbidders_8 : decode cX4_forbidders 8 = .ok (.iconst (-1), 1) := by decide +kernel
theorem dX4_forbidders_9 : decode cX4_forbidders 9 = .ok (.ireturn, 1) := by decide +kernel
theorem dX4_forbidders_10 : decode cX4_forbidders 10 = .ok (.aload_n 0, 1) := by decide +kernel
theorem dX4_forbidders_11 : decode cX4_forbidders 11 = .ok (.aload_n 1, 1) := by decide +kernel
theorem dX4_forbidders_12 : decode cX4_forbidders 12 = .ok (.iload_n 2, 1) := by decide +kernel
theorem dX4_forbidders_13 : decode cX4_forbidders 13 = .ok (.aload_n 1, 1) := by decide +kernel
theorem dX4_forbidders_14 : decode cX4_forbidders 14 = .ok (.getfield 116, 3) := by decide +kernel
theorem dX4_forbidders_17 : decode cX4_forbidders 17 = .ok (.iload_n 2, 1) := by decide +kernel
theorem dX4_forbidders_18 : decode cX4_forbidders 18 = .ok (.iaload, 1) := by decide +kernel
theorem dX4_forbidders_19 : decode cX4_forbidders 19 = .ok (.iload_n 3, 1) := by decide +kernel
theorem dX4_forbidders_20 : decode cX4_forbidders 20 = .ok (.aload_n 1, 1) := by decide +kernel
theorem dX4_forbidders_21 : decode cX4_forbidders 21 = .ok (.getfield 86, 3) := by decide +kernel
theorem dX4_forbidders_24 : decode cX4_forbidders 24 = .ok (.invokevirtual 239, 3) := by decide +kernel
theorem dX4_forbidders_27 : decode cX4_forbidders 27 = .ok (.ireturn, 1) := by decide +kernel
set_option maxRecDepth 20000 in
theorem ggX4_forbiddersFrom_X4_nextStone : GoodIn wsX4_forbiddersFrom wsX4_nextStone := goodIn_r _ [6] (by decide +kernel) (by decide +kernel)
set_option maxRecDepth 20000 in
theorem gX4_forbiddersFrom_X4_nextStone : GoodIn wsX4_forbiddersFrom (va_wsS RX4 236 yX4_nextStone wsX4_nextStone) := goodIn_app (goodIn_of _ (by decide +kernel)) ggX4_forbiddersFrom_X4_nextStone
set_option maxRecDepth 20000 in
theorem ggX4_forbiddersFrom_X4_isMule : GoodIn wsX4_forbiddersFrom wsX4_isMule := goodIn_r _ [10, 11, 30, 31, 32, 33, 34, 35, 36, 37, 38, 39, 40, 41, 42, 43] (by decide +kernel) (by decide +kernel)
set_option maxRecDepth 20000 in
theorem gX4_forbiddersFrom_X4_isMule : GoodIn wsX4_forbiddersFrom (wsV RX4 113 RX4 yX4_isMule wsX4_isMule) := goodIn_app (goodIn_of _ (by decide +kernel)) ggX4_forbiddersFrom_X4_isMule
set_option maxRecDepth 20000 in
theorem ggX4_forbiddersFrom_X4_isStone : GoodIn wsX4_forbiddersFrom wsX4_isStone := goodIn_r _ [14] (by decide +kernel) (by decide +kernel)
set_option maxRecDepth 20000 in
theorem gX4_forbiddersFrom_X4_isStone : GoodIn wsX4_forbiddersFrom (va_wsS RX4 161 yX4_isStone wsX4_isStone) := goodIn_app (goodIn_of _ (by decide +kernel)) ggX4_forbiddersFrom_X4_isStone
set_option maxRecDepth 20000 in
theorem ggX4_forbiddersFrom_X4_othersFromNorthOf : GoodIn wsX4_forbiddersFrom wsX4_othersFromNorthOf := goodIn_r _ [18, 11, 30, 31, 32, 33, 34, 35, 36, 37, 38, 39, 40, 41, 42, 43, 48, 49, 50, 51, 52] (by decide +kernel) (by decide +kernel)
set_option maxRecDepth 20000 in
theorem gX4_forbiddersFrom_X4_othersFromNorthOf : GoodIn wsX4_forbiddersFrom (wsV RX4 243 RX4 yX4_othersFromNorthOf wsX4_othersFromNorthOf) := goodIn_app (goodIn_of _ (by decide +kernel)) ggX4_forbiddersFrom_X4_othersFromNorthOf
set_option maxRecDepth 20000 in
theorem ggX4_forbiddersFrom_X0_forbids : GoodIn wsX4_forbiddersFrom wsX0_forbids := goodIn_r _ [22, 23, 24, 25, 26, 27, 28, 20, 29, 44, 45, 46, 47] (by decide +kernel) (by decide +kernel)
set_option maxRecDepth 20000 in
theorem gX4_forbiddersFrom_X0_forbids_n246 : GoodIn wsX4_forbiddersFrom (wsX0_forbids) := ggX4_forbiddersFrom_X0_forbids
theorem dX4_forbiddersFrom_0 : decode cX4_forbiddersFrom 0 = .ok (.iload_n 3, 1) := by decide +kernel
theorem dX4_forbiddersFrom_1 : decode cX4_forbiddersFrom 1 = .ok (.iload 4, 2) := by decide +kernel
theorem dX4_forbiddersFrom_3 : decode cX4_forbiddersFrom 3 = .ok (.invokestatic 236, 3) := by decide +kernel
theorem dX4_forbiddersFrom_6 : decode cX4_forbiddersFrom 6 = .ok (.istore 6, 2) := by decide +kernel
theorem dX4_forbiddersFrom_8 : decode cX4_forbiddersFrom 8 = .ok (.aload_n 0, 1) := by decide +kernel
theorem dX4_forbiddersFrom_9 : decode cX4_forbiddersFrom 9 = .ok (.iload_n 2, 1) := by decide +kernel
theorem dX4_forbiddersFrom_10 : decode cX4_forbiddersFrom 10 = .ok (.invokevirtual 113, 3) := by decide +kernel
theorem dX4_forbiddersFrom_13 : decode cX4_forbiddersFrom 13 = .ok (.ifCond .eq 11, 3) := by decide +kernel
theorem dX4_forbiddersFrom_16 : decode cX4_forbiddersFrom 16 = .ok (.iload 6, 2) := by decide +kernel
theorem dX4_forbiddersFrom_18 : decode cX4_forbiddersFrom 18 = .ok (.invokestatic 161, 3) := by decide +kernel
theorem dX4_forbiddersFrom_21 : decode cX4_forbiddersFrom 21 = .ok (.ifCond .ne 5, 3) := by decide +kernel
theorem dX4_forbiddersFrom_24 : decode cX4_forbiddersFrom 24 = .ok (.iconst (-1), 1) := by decide +kernel
theorem dX4_forbiddersFrom_25 : decode cX4_forbiddersFrom 25 = .ok (.ireturn, 1) := by decide +kernel
theorem dX4_forbiddersFrom_26 : decode cX4_forbiddersFrom 26 = .ok (.aload_n 0, 1) := by decide +kernel
theorem dX4_forbiddersFrom_27 : decode cX4_forbiddersFrom 27 = .ok (.aload_n 1, 1) := by decide +kernel
theorem dX4_forbiddersFrom_28 : decode cX4_forbiddersFrom 28 = .ok (.iload_n 2, 1) := by decide +kernel
theorem dX4_forbiddersFrom_29 : decode cX4_forbiddersFrom 29 = .ok (.iload 6, 2) := by decide +kernel
theorem dX4_forbiddersFrom_31 : decode cX4_forbiddersFrom 31 = .ok (.invokevirtual 243, 3) := by decide +kernel
theorem dX4_forbiddersFrom_34 : decode cX4_forbiddersFrom 34 = .ok (.istore 7, 2) := by decide +kernel
theorem dX4_forbiddersFrom_36 : decode cX4_forbiddersFrom 36 = .ok (.iconst 0, 1) := by decide +kernel
theorem dX4_forbiddersFrom_37 : decode cX4_forbiddersFrom 37 = .ok (.istore 8, 2) := by decide +kernel
theorem dX4_forbiddersFrom_39 : decode cX4_forbiddersFrom 39 = .ok (.iconst 0, 1) := by decide +kernel
theorem dX4_forbiddersFrom_40 : decode cX4_forbiddersFrom 40 = .ok (.istore 9, 2) := by decide +kernel
theorem dX4_forbiddersFrom_42 : decode cX4_forbiddersFrom 42 = .ok (.iload 9, 2) := by decide +kernel
theorem dX4_forbiddersFrom_44 : decode cX4_forbiddersFrom 44 = .ok (.aload_n 0, 1) := by decide +kernel
theorem dX4_forbiddersFrom_45 : decode cX4_forbiddersFrom 45 = .ok (.getfield 19, 3) := by decide +kernel
theorem dX4_forbiddersFrom_48 : decode cX4_forbiddersFrom 48 = .ok (.getfield 83, 3) := by decide +kernel
theorem dX4_forbiddersFrom_51 : decode cX4_forbiddersFrom 51 = .ok (.if_icmp .ge 47, 3) := by decide +kernel
theorem dX4_forbiddersFrom_54 : decode cX4_forbiddersFrom 54 = .ok (.aload_n 0, 1) := by decide +kernel
theorem dX4_forbiddersFrom_55 : decode cX4_forbiddersFrom 55 = .ok (.getfield 19, 3) := by decide +kernel
theorem dX4_forbiddersFrom_58 : decode cX4_forbiddersFrom 58 = .ok (.iload 9, 2) := by decide +kernel
theorem dX4_forbiddersFrom_60 : decode cX4_forbiddersFrom 60 = .ok (.iload 6, 2) := by decide +kernel
theorem dX4_forbiddersFrom_62 : decode cX4_forbiddersFrom 62 = .ok (.aload_n 0, 1) := by decide +kernel
theorem dX4_forbiddersFrom_63 : decode cX4_forbiddersFrom 63 = .ok (.getfield 23, 3) := by decide +kernel
theorem dX4_forbiddersFrom_66 : decode cX4_forbiddersFrom 66 = .ok (.iload_n 2, 1) := by decide +kernel
theorem dX4_forbiddersFrom_67 : decode cX4_forbiddersFrom 67 = .ok (.iaload, 1) := by decide +kernel
theorem dX4_forbiddersFrom_68 : decode cX4_forbiddersFrom 68 = .ok (.iload 5, 2) := by decide +kernel
theorem dX4_forbiddersFrom_70 : decode cX4_forbiddersFrom 70 = .ok (.bipush 10, 2) := by decide +kernel
theorem dX4_forbiddersFrom_72 : decode cX4_forbiddersFrom 72 = .ok (.irem, 1) := by decide +kernel
theorem dX4_forbiddersFrom_73 : decode cX4_forbiddersFrom 73 = .ok (.iload 4, 2) := by decide +kernel
theorem dX4_forbiddersFrom_75 : decode cX4_forbiddersFrom 75 = .ok (.iload 7, 2) := by decide +kernel
theorem dX4_forbiddersFrom_77 : decode cX4_forbiddersFrom 77 = .ok (.invokevirtual 246, 3) := by decide +kernel
theorem dX4_forbiddersFrom_80 : decode cX4_forbiddersFrom 80 = .ok (.ifCond .eq 12, 3) := by decide +kernel
theorem dX4_forbiddersFrom_83 : decode cX4_forbiddersFrom 83 = .ok (.iload 8, 2) := by decide +kernel
theorem dX4_forbiddersFrom_85 : decode cX4_forbiddersFrom 85 = .ok (.iconst 1, 1) := by decide +kernel
theorem dX4_forbiddersFrom_86 : decode cX4_forbiddersFrom 86 = .ok (.iload 9, 2) := by decide +kernel
theorem dX4_forbiddersFrom_88 : decode cX4_forbiddersFrom 88 = .ok (.ishl, 1) := by decide +kernel
theorem dX4_forbiddersFrom_89 : decode cX4_forbiddersFrom 89 = .ok (.ior, 1) := by decide +kernel
theorem dX4_forbiddersFrom_90 : decode cX4_forbiddersFrom 90 = .ok (.istore 8, 2) := by decide +kernel
theorem dX4_forbiddersFrom_92 : decode cX4_forbiddersFrom 92 = .ok (.iinc 9 1, 3) := by decide +kernel
theorem dX4_forbiddersFrom_95 : decode cX4_forbiddersFrom 95 = .ok (.goto (-53), 3) := by decide +kernel
theorem dX4_forbiddersFrom_98 : decode cX4_forbiddersFrom 98 = .ok (.iload 8, 2) := by decide +kernel
theorem dX4_forbiddersFrom_100 : decode cX4_forbiddersFrom 100 = .ok (.ireturn, 1) := by decide +kernel
theorem dX4_othersFromNorthOf_0 : decode cX4_othersFromNorthOf 0 = .ok (.iconst 0, 1) := by decide +kernel
theorem dX4_othersFromNorthOf_1 : decode cX4_othersFromNorthOf 1 = .ok (.istore 4, 2) := by decide +kernel
theorem dX4_othersFromNorthOf_3 : decode cX4_othersFromNorthOf 3 = .ok (.iconst 0, 1) := by decide +kernel
theorem dX4_othersFromNorthOf_4 : decode cX4_othersFromNorthOf 4 = .ok (.istore 5, 2) := by decide +kernel
theorem dX4_othersFromNorthOf_6 : decode cX4_othersFromNorthOf 6 = .ok (.iload 5, 2) := by decide +kernel
theorem dX4_othersFromNorthOf_8 : decode cX4_othersFromNorthOf 8 = .ok (.aload_n 0, 1) := by decide +kernel
theorem dX4_othersFromNorthOf_9 : decode cX4_othersFromNorthOf 9 = .ok (.getfield 27, 3) := by decide +kernel
theorem dX4_othersFromNorthOf_12 : decode cX4_othersFromNorthOf 12 = .ok (.if_icmp .ge 29, 3) := by decide +kernel
theorem dX4_othersFromNorthOf_15 : decode cX4_othersFromNorthOf 15 = .ok (.iload 5, 2) := by decide +kernel
theorem dX4_othersFromNorthOf_17 : decode cX4_othersFromNorthOf 17 = .ok (.iload_n 2, 1) := by decide +kernel
theorem dX4_othersFromNorthOf_18 : decode cX4_othersFromNorthOf 18 = .ok (.if_icmp .eq 17, 3) := by decide +kernel
theorem dX4_othersFromNorthOf_21 : decode cX4_othersFromNorthOf 21 = .ok (.aload_n 1, 1) := by decide +kernel
theorem dX4_othersFromNorthOf_22 : decode cX4_othersFromNorthOf 22 = .ok (.getfield 116, 3) := by decide +kernel
theorem dX4_othersFromNorthOf_25 : decode cX4_othersFromNorthOf 25 = .ok (.iload 5, 2) := by decide +kernel
theorem dX4_othersFromNorthOf_27 : decode cX4_othersFromNorthOf 27 = .ok (.iaload, 1) := by decide +kernel
theorem dX4_othersFromNorthOf_28 : decode cX4_othersFromNorthOf 28 = .ok (.iload_n 3, 1) := by decide +kernel
theorem dX4_othersFromNorthOf_29 : decode cX4_othersFromNorthOf 29 = .ok (.if_icmp .lt 6, 3) := by decide +kernel
theorem dX4_othersFromNorthOf_32 : decode cX4_othersFromNorthOf 32 = .ok (.iinc 4 1, 3) := by decide +kernel
theorem dX4_othersFromNorthOf_35 : decode cX4_othersFromNorthOf 35 = .ok (.iinc 5 1, 3) := by decide +kernel
theorem dX4_othersFromNorthOf_38 : decode cX4_othersFromNorthOf 38 = .ok (.goto (-32), 3) := by decide +kernel
theorem dX4_othersFromNorthOf_41 : decode cX4_othersFromNorthOf 41 = .ok (.iload 4, 2) := by decide +kernel
theorem dX4_othersFromNorthOf_43 : decode cX4_othersFromNorthOf 43 = .ok (.ireturn, 1) := by decide +kernel
set_option maxRecDepth 20000 in
theorem ggX4_balkers_X4_forbidders : GoodIn wsX4_balkers wsX4_forbidders := goodIn_r _ [5, 6, 7, 8, 4, 9, 10, 11, 12, 13, 14, 15, 16, 17, 18, 19, 20, 21, 22, 23, 24, 25, 26, 27, 28, 29, 30, 31, 32, 33, 34, 35, 36, 37, 52, 53, 54, 55, 56, 57, 58, 59, 60, 61, 62, 63, 64, 65, 66, 67, 68, 69, 70, 71, 72, 73, 74] (by decide +kernel) (by decide +kernel)
set_option maxRecDepth 20000 in
theorem gX4_balkers_X4_forbidders : GoodIn wsX4_balkers (wsV RX4 131 RX4 yX4_forbidders wsX4_forbidders) := goodIn_app (goodIn_of _ (by decide +kernel)) ggX4_balkers_X4_forbidders
set_option maxRecDepth 20000 in
theorem ggX4_balkers_X4_known : GoodIn wsX4_balkers wsX4_known := goodIn_r _ [41, 6, 7, 8, 4, 9, 10, 42, 43, 44, 45, 15, 46, 28, 47, 48, 31, 49, 50, 51, 52, 53, 54, 55, 56, 57, 58, 59, 60, 61, 62, 63, 64, 65, 66, 67, 68, 69, 70, 71, 72, 73, 74] (by decide +kernel) (by decide +kernel)
set_option maxRecDepth 20000 in
theorem gX4_balkers_X4_known : GoodIn wsX4_balkers (wsV RX4 123 RX4 yX4_known wsX4_known) := goodIn_app (goodIn_of _ (by decide +kernel)) ggX4_balkers_X4_known
theorem dX4_balkers_0 : decode cX4_balkers 0 = .ok (.aload_n 0, 1) := by decide +kernel
theorem dX4_balkers_1 : decode cX4_balkers 1 = .ok (.aload_n 1, 1) := by decide +kernel
theorem dX4_balkers_2 : decode cX4_balkers 2 = .ok (.iload_n 2, 1) := by decide +kernel
theorem dX4_balkers_3 : decode cX4_balkers 3 = .ok (.iload_n 3, 1) := by decide +kernel
theorem dX4_balkers_4 : decode cX4_balkers 4 = .ok (.invokevirtual 131, 3) := by decide +kernel
theorem dX4_balkers_7 : decode cX4_balkers 7 = .ok (.istore 4, 2) := by decide +kernel
theorem dX4_balkers_9 : decode cX4_balkers 9 = .ok (.iload 4, 2) := by decide +kernel
theorem dX4_balkers_11 : decode cX4_balkers 11 = .ok (.iconst (-1), 1) := by decide +kernel
theorem dX4_balkers_12 : decode cX4_balkers 12 = .ok (.if_icmp .ne 7, 3) := by decide +kernel
theorem dX4_balkers_15 : decode cX4_balkers 15 = .ok (.iconst 0, 1) := by decide +kernel
theorem dX4_balkers_16 : decode cX4_balkers 16 = .ok (.goto 12, 3) := by decide +kernel
theorem dX4_balkers_19 : decode cX4_balkers 19 = .ok (.iload 4, 2) := by decide +kernel
theorem dX4_balkers_21 : decode cX4_balkers 21 = .ok (.aload_n 0, 1) := by decide +kernel
theorem dX4_balkers_22 : decode cX4_balkers 22 = .ok (.aload_n 1, 1) := by decide +kernel
theorem dX4_balkers_23 : decode cX4_balkers 23 = .ok (.iload_n 2, 1) := by decide +kernel
theorem dX4_balkers_24 : decode cX4_balkers 24 = .ok (.invokevirtual 123, 3) := by decide +kernel
theorem dX4_balkers_27 : decode cX4_balkers 27 = .ok (.iand, 1) := by decide +kernel
theorem dX4_balkers_28 : decode cX4_balkers 28 = .ok (.ireturn, 1) := by decide +kernel
set_option maxRecDepth 20000 in
theorem ggX4_wouldGo_X4_forbidders : GoodIn wsX4_wouldGo wsX4_forbidders := goodIn_r _ [5, 6, 7, 8, 4, 9, 10, 11, 12, 13, 14, 15, 16, 17, 18, 19, 20, 21, 22, 23, 24, 25, 26, 27, 28, 29, 30, 31, 32, 33, 34, 35, 36, 37, 52, 53, 54, 55, 56, 57, 58, 59, 60, 61, 62, 63, 64, 65, 66, 67, 68, 69, 70, 71, 72, 73, 74] (by decide +kernel) (by decide +kernel)
set_option maxRecDepth 20000 in
theorem gX4_wouldGo_X4_forbidders : GoodIn wsX4_wouldGo (wsV RX4 131 RX4 yX4_forbidders wsX4_forbidders) := goodIn_app (goodIn_of _ (by decide +kernel)) ggX4_wouldGo_X4_forbidders
set_option maxRecDepth 20000 in
theorem ggX4_wouldGo_X4_known : GoodIn wsX4_wouldGo wsX4_known := goodIn_r _ [41, 6, 7, 8, 4, 9, 10, 42, 43, 44, 45, 15, 46, 28, 47, 48, 31, 49, 50, 51, 52, 53, 54, 55, 56, 57, 58, 59, 60, 61, 62, 63, 64, 65, 66, 67, 68, 69, 70, 71, 72, 73, 74] (by decide +kernel) (by decide +kernel)
set_option maxRecDepth 20000 in
theorem gX4_wouldGo_X4_known : GoodIn wsX4_wouldGo (wsV RX4 123 RX4 yX4_known wsX4_known) := goodIn_app (goodIn_of _ (by decide +kernel)) ggX4_wouldGo_X4_known
theorem dX4_wouldGo_0 : decode cX4_wouldGo 0 = .ok (.aload_n 0, 1) := by decide +kernel
theorem dX4_wouldGo_1 : decode cX4_wouldGo 1 = .ok (.aload_n 1, 1) := by decide +kernel
theorem dX4_wouldGo_2 : decode cX4_wouldGo 2 = .ok (.iload_n 2, 1) := by decide +kernel
theorem dX4_wouldGo_3 : decode cX4_wouldGo 3 = .ok (.iload_n 3, 1) := by decide +kernel
theorem dX4_wouldGo_4 : decode cX4_wouldGo 4 = .ok (.invokevirtual 131, 3) := by decide +kernel
theorem dX4_wouldGo_7 : decode cX4_wouldGo 7 = .ok (.istore 4, 2) := by decide +kernel
theorem dX4_wouldGo_9 : decode cX4_wouldGo 9 = .ok (.iload 4, 2) := by decide +kernel
theorem dX4_wouldGo_11 : decode cX4_wouldGo 11 = .ok (.iconst (-1), 1) := by decide +kernel
theorem dX4_wouldGo_12 : decode cX4_wouldGo 12 = .ok (.if_icmp .eq 19, 3) := by decide +kernel
theorem dX4_wouldGo_15 : decode cX4_wouldGo 15 = .ok (.iload 4, 2) := by decide +kernel
theorem dX4_wouldGo_17 : decode cX4_wouldGo 17 = .ok (.aload_n 0, 1) := by decide +kernel
theorem dX4_wouldGo_18 : decode cX4_wouldGo 18 = .ok (.aload_n 1, 1) := by decide +kernel
theorem dX4_wouldGo_19 : decode cX4_wouldGo 19 = .ok (.iload_n 2, 1) := by decide +kernel
theorem dX4_wouldGo_20 : decode cX4_wouldGo 20 = .ok (.invokevirtual 123, 3) := by decide +kernel
theorem dX4_wouldGo_23 : decode cX4_wouldGo 23 = .ok (.iand, 1) := by decide +kernel
theorem dX4_wouldGo_24 : decode cX4_wouldGo 24 = .ok (.ifCond .ne 7, 3) := by decide +kernel
theorem dX4_wouldGo_27 : decode cX4_wouldGo 27 = .ok (.iconst 1, 1) := by decide +kernel
theorem dX4_wouldGo_28 : decode cX4_wouldGo 28 = .ok (.goto 4, 3) := by decide +kernel
theorem dX4_wouldGo_31 : decode cX4_wouldGo 31 = .ok (.iconst 0, 1) := by decide +kernel
theorem dX4_wouldGo_32 : decode cX4_wouldGo 32 = .ok (.ireturn, 1) := by decide +kernel
theorem dX4_copyState_0 : decode cX4_copyState 0 = .ok (.aload_n 0, 1) := by decide +kernel
theorem dX4_copyState_1 : decode cX4_copyState 1 = .ok (.ifnull 7, 3) := by decide +kernel
theorem dX4_copyState_4 : decode cX4_copyState 4 = .ok (.aload_n 1, 1) := by decide +kernel
theorem dX4_copyState_5 : decode cX4_copyState 5 = .ok (.ifnonnull 4, 3) := by decide +kernel
theorem dX4_copyState_8 : decode cX4_copyState 8 = .ok (.return_, 1) := by decide +kernel
theorem dX4_copyState_9 : decode cX4_copyState 9 = .ok (.iconst 0, 1) := by decide +kernel
theorem dX4_copyState_10 : decode cX4_copyState 10 = .ok (.istore_n 2, 1) := by decide +kernel
theorem dX4_copyState_11 : decode cX4_copyState 11 = .ok (.iload_n 2, 1) := by decide +kernel
theorem dX4_copyState_12 : decode cX4_copyState 12 = .ok (.iconst 5, 1) := by decide +kernel
theorem dX4_copyState_13 : decode cX4_copyState 13 = .ok (.if_icmp .ge 45, 3) := by decide +kernel
theorem dX4_copyState_16 : decode cX4_copyState 16 = .ok (.aload_n 1, 1) := by decide +kernel
theorem dX4_copyState_17 : decode cX4_copyState 17 = .ok (.getfield 116, 3) := by decide +kernel
theorem dX4_copyState_20 : decode cX4_copyState 20 = .ok (.iload_n 2, 1) := by decide +kernel
theorem dX4_copyState_21 : decode cX4_copyState 21 = .ok (.aload_n 0, 1) := by decide +kernel
theorem dX4_copyState_22 : decode cX4_copyState 22 = .ok (.getfield 116, 3) := by decide +kernel
theorem dX4_copyState_25 : decode cX4_copyState 25 = .ok (.iload_n 2, 1) := by decide +kernel
theorem dX4_copyState_26 : decode cX4_copyState 26 = .ok (.iaload, 1) := by decide +kernel
theorem dX4_copyState_27 : decode cX4_copyState 27 = .ok (.iastore, 1) := by decide +kernel
theorem dX4_copyState_28 : decode cX4_copyState 28 = .ok (.aload_n 1, 1) := by decide +kernel
theorem dX4_copyState_29 : decode cX4_copyState 29 = .ok (.getfield 117, 3) := by decide +kernel
theorem dX4_copyState_32 : decode cX4_copyState 32 = .ok (.iload_n 2, 1) := by decide +kernel
theorem dX4_copyState_33 : decode cX4_copyState 33 = .ok (.aload_n 0, 1) := by decide +kernel
theorem dX4_copyState_34 : decode cX4_copyState 34 = .ok (.getfield 117, 3) := by decide +kernel
theorem dX4_copyState_37 : decode cX4_copyState 37 = .ok (.iload_n 2, 1) := by decide +kernel
theorem dX4_copyState_38 : decode cX4_copyState 38 = .ok (.iaload, 1) := by decide +kernel
theorem dX4_copyState_39 : decode cX4_copyState 39 = .ok (.iastore, 1) := by decide +kernel
theorem dX4_copyState_40 : decode cX4_copyState 40 = .ok (.aload_n 1, 1) := by decide +kernel
theorem dX4_copyState_41 : decode cX4_copyState 41 = .ok (.getfield 120, 3) := by decide +kernel
theorem dX4_copyState_44 : decode cX4_copyState 44 = .ok (.iload_n 2, 1) := by decide +kernel
theorem dX4_copyState_45 : decode cX4_copyState 45 = .ok (.aload_n 0, 1) := by decide +kernel
theorem dX4_copyState_46 : decode cX4_copyState 46 = .ok (.getfield 120, 3) := by decide +kernel
theorem dX4_copyState_49 : decode cX4_copyState 49 = .ok (.iload_n 2, 1) := by decide +kernel
theorem dX4_copyState_50 : decode cX4_copyState 50 = .ok (.iaload, 1) := by decide +kernel
theorem dX4_copyState_51 : decode cX4_copyState 51 = .ok (.iastore, 1) := by decide +kernel
theorem dX4_copyState_52 : decode cX4_copyState 52 = .ok (.iinc 2 1, 3) := by decide +kernel
theorem dX4_copyState_55 : decode cX4_copyState 55 = .ok (.goto (-44), 3) := by decide +kernel
theorem dX4_copyState_58 : decode cX4_copyState 58 = .ok (.aload_n 1, 1) := by decide +kernel
theorem dX4_copyState_59 : decode cX4_copyState 59 = .ok (.aload_n 0, 1) := by decide +kernel
theorem dX4_copyState_60 : decode cX4_copyState 60 = .ok (.getfield 86, 3) := by decide +kernel
theorem dX4_copyState_63 : decode cX4_copyState 63 = .ok (.putfield 86, 3) := by decide +kernel
theorem dX4_copyState_66 : decode cX4_copyState 66 = .ok (.aload_n 1, 1) := by decide +kernel
theorem dX4_copyState_67 : decode cX4_copyState 67 = .ok (.aload_n 0, 1) := by decide +kernel
theorem dX4_copyState_68 : decode cX4_copyState 68 = .ok (.getfield 89, 3) := by decide +kernel
theorem dX4_copyState_71 : decode cX4_copyState 71 = .ok (.putfield 89, 3) := by decide +kernel
theorem dX4_copyState_74 : decode cX4_copyState 74 = .ok (.return_, 1) := by decide +kernel
set_option maxRecDepth 20000 in
theorem ggX4_rememberAct_X4_copyState : GoodIn wsX4_rememberAct wsX4_copyState := goodIn_r _ [8, 23, 24, 25, 26, 27] (by decide +kernel) (by decide +kernel)
set_option maxRecDepth 20000 in
theorem gX4_rememberAct_X4_copyState : GoodIn wsX4_rememberAct (va_wsS RX4 157 yX4_copyState wsX4_copyState) := goodIn_app (goodIn_of _ (by decide +kernel)) ggX4_rememberAct_X4_copyState
theorem dX4_rememberAct_0 : decode cX4_rememberAct 0 = .ok (.aload_n 0, 1) := by decide +kernel
theorem dX4_rememberAct_1 : decode cX4_rememberAct 1 = .ok (.getfield 48, 3) := by decide +kernel
theorem dX4_rememberAct_4 : decode cX4_rememberAct 4 = .ok (.bipush 14, 2) := by decide +kernel
theorem dX4_rememberAct_6 : decode cX4_rememberAct 6 = .ok (.if_icmp .ne 26, 3) := by decide +kernel
theorem dX4_rememberAct_9 : decode cX4_rememberAct 9 = .ok (.aload_n 0, 1) := by decide +kernel
theorem dX4_rememberAct_10 : decode cX4_rememberAct 10 = .ok (.aload_n 0, 1) := by decide +kernel
theorem dX4_rememberAct_11 : decode cX4_rememberAct 11 = .ok (.getfield 45, 3) := by decide +kernel
theorem dX4_rememberAct_14 : decode cX4_rememberAct 14 = .ok (.iconst 1, 1) := by decide +kernel
theorem dX4_rememberAct_15 : decode cX4_rememberAct 15 = .ok (.iadd, 1) := by decide +kernel
theorem dX4_rememberAct_16 : decode cX4_rememberAct 16 = .ok (.bipush 14, 2) := by decide +kernel
theorem dX4_rememberAct_18 : decode cX4_rememberAct 18 = .ok (.irem, 1) := by decide +kernel
theorem dX4_rememberAct_19 : decode cX4_rememberAct 19 = .ok (.putfield 45, 3) := by decide +kernel
theorem dX4_rememberAct_22 : decode cX4_rememberAct 22 = .ok (.aload_n 0, 1) := by decide +kernel
theorem dX4_rememberAct_23 : decode cX4_rememberAct 23 = .ok (.dup, 1) := by decide +kernel
theorem dX4_rememberAct_24 : decode cX4_rememberAct 24 = .ok (.getfield 48, 3) := by decide +kernel
theorem dX4_rememberAct_27 : decode cX4_rememberAct 27 = .ok (.iconst 1, 1) := by decide +kernel
theorem dX4_rememberAct_28 : decode cX4_rememberAct 28 = .ok (.isub, 1) := by decide +kernel
theorem dX4_rememberAct_29 : decode cX4_rememberAct 29 = .ok (.putfield 48, 3) := by decide +kernel
theorem dX4_rememberAct_32 : decode cX4_rememberAct 32 = .ok (.aload_n 0, 1) := by decide +kernel
theorem dX4_rememberAct_33 : decode cX4_rememberAct 33 = .ok (.getfield 34, 3) := by decide +kernel
theorem dX4_rememberAct_36 : decode cX4_rememberAct 36 = .ok (.aload_n 0, 1) := by decide +kernel
theorem dX4_rememberAct_37 : decode cX4_rememberAct 37 = .ok (.getfield 41, 3) := by decide +kernel
theorem dX4_rememberAct_40 : decode cX4_rememberAct 40 = .ok (.aload_n 0, 1) := by decide +kernel
theorem dX4_rememberAct_41 : decode cX4_rememberAct 41 = .ok (.getfield 45, 3) := by decide +kernel
theorem dX4_rememberAct_44 : decode cX4_rememberAct 44 = .ok (.aload_n 0, 1) := by decide +kernel
theorem dX4_rememberAct_45 : decode cX4_rememberAct 45 = .ok (.getfield 48, 3) := by decide +kernel
theorem dX4_rememberAct_48 : decode cX4_rememberAct 48 = .ok (.iadd, 1) := by decide +kernel
theorem dX4_rememberAct_49 : decode cX4_rememberAct 49 = .ok (.bipush 14, 2) := by decide +kernel
theorem dX4_rememberAct_51 : decode cX4_rememberAct 51 = .ok (.irem, 1) := by decide +kernel
theorem dX4_rememberAct_52 : decode cX4_rememberAct 52 = .ok (.aaload, 1) := by decide +kernel
theorem dX4_rememberAct_53 : decode cX4_rememberAct 53 = .ok (.invokestatic 157, 3) := by decide +kernel
theorem dX4_rememberAct_56 : decode cX4_rememberAct 56 = .ok (.aload_n 0, 1) := by decide +kernel
theorem dX4_rememberAct_57 : decode cX4_rememberAct 57 = .ok (.dup, 1) := by decide +kernel
theorem dX4_rememberAct_58 : decode cX4_rememberAct 58 = .ok (.getfield 48, 3) := by decide +kernel
theorem dX4_rememberAct_61 : decode cX4_rememberAct 61 = .ok (.iconst 1, 1) := by decide +kernel
theorem dX4_rememberAct_62 : decode cX4_rememberAct 62 = .ok (.iadd, 1) := by decide +kernel
theorem dX4_rememberAct_63 : decode cX4_rememberAct 63 = .ok (.putfield 48, 3) := by decide +kernel
theorem dX4_rememberAct_66 : decode cX4_rememberAct 66 = .ok (.return_, 1) := by decide +kernel
set_option maxRecDepth 20000 in
theorem ggX4_go_X4_forbidders : GoodIn wsX4_go wsX4_forbidders := goodIn_r _ [5, 6, 7, 8, 4, 9, 10, 11, 12, 13, 14, 15, 16, 17, 18, 19, 20, 21, 22, 23, 24, 25, 26, 27, 28, 29, 30, 31, 32, 33, 34, 35, 36, 37, 45, 46, 47, 48, 49, 50, 51, 52, 53, 54, 55, 56, 57, 58, 59, 60, 61, 62, 63, 64, 65, 66, 67] (by decide +kernel) (by decide +kernel)
set_option maxRecDepth 20000 in
theorem gX4_go_X4_forbidders : GoodIn wsX4_go (wsV RX4 131 RX4 yX4_forbidders wsX4_forbidders) := goodIn_app (goodIn_of _ (by decide +kernel)) ggX4_go_X4_forbidders
set_option maxRecDepth 20000 in
theorem ggX4_go_J6_bitCount_0f7a4 : GoodIn wsX4_go wsJ6_bitCount_0f7a4 := goodIn_r _ [41, 42, 43, 44] (by decide +kernel) (by decide +kernel)
set_option maxRecDepth 20000 in
theorem gX4_go_J6_bitCount_0f7a4 : GoodIn wsX4_go (va_wsS RX4 152 yJ6_bitCount_0f7a4 wsJ6_bitCount_0f7a4) := goodIn_app (goodIn_of _ (by decide +kernel)) ggX4_go_J6_bitCount_0f7a4
set_option maxRecDepth 20000 in
theorem ggX4_go_X4_nextStone : GoodIn wsX4_go wsX4_nextStone := goodIn_r _ [19] (by decide +kernel) (by decide +kernel)
set_option maxRecDepth 20000 in
theorem gX4_go_X4_nextStone : GoodIn wsX4_go (va_wsS RX4 236 yX4_nextStone wsX4_nextStone) := goodIn_app (goodIn_of _ (by decide +kernel)) ggX4_go_X4_nextStone
theorem dX4_go_0 : decode cX4_go 0 = .ok (.aload_n 0, 1) := by decide +kernel
theorem dX4_go_1 : decode cX4_go 1 = .ok (.aload_n 1, 1) := by decide +kernel
theorem dX4_go_2 : decode cX4_go 2 = .ok (.iload_n 2, 1) := by decide +kernel
theorem dX4_go_3 : decode cX4_go 3 = .ok (.iload_n 3, 1) := by decide +kernel
theorem dX4_go_4 : decode cX4_go 4 = .ok (.invokevirtual 131, 3) := by decide +kernel
theorem dX4_go_7 : decode cX4_go 7 = .ok (.istore 4, 2) := by decide +kernel
theorem dX4_go_9 : decode cX4_go 9 = .ok (.iload 4, 2) := by decide +kernel
theorem dX4_go_11 : decode cX4_go 11 = .ok (.iconst (-1), 1) := by decide +kernel
theorem dX4_go_12 : decode cX4_go 12 = .ok (.if_icmp .ne 4, 3) := by decide +kernel
theorem dX4_go_15 : decode cX4_go 15 = .ok (.return_, 1) := by decide +kernel
theorem dX4_go_16 : decode cX4_go 16 = .ok (.aload_n 1, 1) := by decide +kernel
theorem dX4_go_17 : decode cX4_go 17 = .ok (.dup, 1) := by decide +kernel
theorem dX4_go_18 : decode cX4_go 18 = .ok (.getfield 89, 3) := by decide +kernel
theorem dX4_go_21 : decode cX4_go 21 = .ok (.iload 4, 2) := by decide +kernel
theorem dX4_go_23 : decode cX4_go 23 = .ok (.invokestatic 152, 3) := by decide +kernel
theorem dX4_go_26 : decode cX4_go 26 = .ok (.iadd, 1) := by decide +kernel
theorem dX4_go_27 : decode cX4_go 27 = .ok (.putfield 89, 3) := by decide +kernel
theorem dX4_go_30 : decode cX4_go 30 = .ok (.aload_n 1, 1) := by decide +kernel
theorem dX4_go_31 : decode cX4_go 31 = .ok (.getfield 116, 3) := by decide +kernel
theorem dX4_go_34 : decode cX4_go 34 = .ok (.iload_n 2, 1) := by decide +kernel
theorem dX4_go_35 : decode cX4_go 35 = .ok (.aload_n 1, 1) := by decide +kernel
theorem dX4_go_36 : decode cX4_go 36 = .ok (.getfield 116, 3) := by decide +kernel
theorem dX4_go_39 : decode cX4_go 39 = .ok (.iload_n 2, 1) := by decide +kernel
theorem dX4_go_40 : decode cX4_go 40 = .ok (.iaload, 1) := by decide +kernel
theorem dX4_go_41 : decode cX4_go 41 = .ok (.iload_n 3, 1) := by decide +kernel
theorem dX4_go_42 : decode cX4_go 42 = .ok (.invokestatic 236, 3) := by decide +kernel
theorem dX4_go_45 : decode cX4_go 45 = .ok (.iastore, 1) := by decide +kernel
theorem dX4_go_46 : decode cX4_go 46 = .ok (.aload_n 1, 1) := by decide +kernel
theorem dX4_go_47 : decode cX4_go 47 = .ok (.dup, 1) := by decide +kernel
theorem dX4_go_48 : decode cX4_go 48 = .ok (.getfield 86, 3) := by decide +kernel
theorem dX4_go_51 : decode cX4_go 51 = .ok (.iconst 1, 1) := by decide +kernel
theorem dX4_go_52 : decode cX4_go 52 = .ok (.iadd, 1) := by decide +kernel
theorem dX4_go_53 : decode cX4_go 53 = .ok (.putfield 86, 3) := by decide +kernel
theorem dX4_go_56 : decode cX4_go 56 = .ok (.return_, 1) := by decide +kernel
set_option maxRecDepth 20000 in
theorem ggX4_doneWithoutFault_X4_isFlag : GoodIn wsX4_doneWithoutFault wsX4_isFlag := goodIn_r _ [4] (by decide +kernel) (by decide +kernel)
set_option maxRecDepth 20000 in
theorem gX4_doneWithoutFault_X4_isFlag : GoodIn wsX4_doneWithoutFault (va_wsS RX4 185 yX4_isFlag wsX4_isFlag) := goodIn_app (goodIn_of _ (by decide +kernel)) ggX4_doneWithoutFault_X4_isFlag
set_option maxRecDepth 20000 in
theorem ggX4_doneWithoutFault_X4_forbidders : GoodIn wsX4_doneWithoutFault wsX4_forbidders := goodIn_r _ [8, 9, 10, 11, 3, 12, 13, 14, 15, 16, 17, 18, 19, 20, 21, 22, 23, 24, 25, 26, 27, 28, 29, 30, 31, 32, 33, 34, 35, 36, 37, 38, 39, 40, 52, 53, 54, 55, 56, 57, 58, 59, 60, 61, 62, 63, 64, 65, 66, 67, 68, 69, 70, 71, 72, 73, 74] (by decide +kernel) (by decide +kernel)
set_option maxRecDepth 20000 in
theorem gX4_doneWithoutFault_X4_forbidders : GoodIn wsX4_doneWithoutFault (wsV RX4 131 RX4 yX4_forbidders wsX4_forbidders) := goodIn_app (goodIn_of _ (by decide +kernel)) ggX4_doneWithoutFault_X4_forbidders
set_option maxRecDepth 20000 in
theorem ggX4_doneWithoutFault_X4_go : GoodIn wsX4_doneWithoutFault wsX4_go := goodIn_r _ [44, 5, 6, 7, 3, 8, 9, 10, 11, 12, 13, 14, 15, 16, 17, 18, 19, 20, 21, 22, 23, 24, 25, 26, 27, 28, 29, 30, 31, 32, 33, 34, 35, 36, 37, 38, 39, 40, 45, 46, 47, 48, 49, 50, 51, 52, 53, 54, 55, 56, 57, 58, 59, 60, 61, 62, 63, 64, 65, 66, 67, 68, 69, 70, 71, 72, 73, 74] (by decide +kernel) (by decide +kernel)
set_option maxRecDepth 20000 in
theorem gX4_doneWithoutFault_X4_go : GoodIn wsX4_doneWithoutFault (wsV RX4 148 RX4 yX4_go wsX4_go) := goodIn_app (goodIn_of _ (by decide +kernel)) ggX4_doneWithoutFault_X4_go
set_option maxRecDepth 20000 in
theorem ggX4_doneWithoutFault_X4_isMule : GoodIn wsX4_doneWithoutFault wsX4_isMule := goodIn_r _ [12, 13, 57, 58, 59, 60, 61, 62, 63, 64, 65, 66, 67, 68, 69, 70] (by decide +kernel) (by decide +kernel)
set_option maxRecDepth 20000 in
theorem gX4_doneWithoutFault_X4_isMule : GoodIn wsX4_doneWithoutFault (wsV RX4 113 RX4 yX4_isMule wsX4_isMule) := goodIn_app (goodIn_of _ (by decide +kernel)) ggX4_doneWithoutFault_X4_isMule
theorem dX4_doneWithoutFault_0 : decode cX4_doneWithoutFault 0 = .ok (.iload_n 2, 1) := by decide +kernel
theorem dX4_doneWithoutFault_1 : decode cX4_doneWithoutFault 1 = .ok (.ifCond .ne 23, 3) := by decide +kernel
theorem dX4_doneWithoutFault_4 : decode cX4_doneWithoutFault 4 = .ok (.aload_n 1, 1) := by decide +kernel
theorem dX4_doneWithoutFault_5 : decode cX4_doneWithoutFault 5 = .ok (.dup, 1) := by decide +kernel
theorem dX4_doneWithoutFault_6 : decode cX4_doneWithoutFault 6 = .ok (.getfield 86, 3) := by decide +kernel
theorem dX4_doneWithoutFault_9 : decode cX4_doneWithoutFault 9 = .ok (.iconst 1, 1) := by decide +kernel
theorem dX4_doneWithoutFault_10 : decode cX4_doneWithoutFault 10 = .ok (.iadd, 1) := by decide +kernel
theorem dX4_doneWithoutFault_11 : decode cX4_doneWithoutFault 11 = .ok (.putfield 86, 3) := by decide +kernel
theorem dX4_doneWithoutFault_14 : decode cX4_doneWithoutFault 14 = .ok (.iload_n 3, 1) := by decide +kernel
theorem dX4_doneWithoutFault_15 : decode cX4_doneWithoutFault 15 = .ok (.ifCond .ne 7, 3) := by decide +kernel
theorem dX4_doneWithoutFault_18 : decode cX4_doneWithoutFault 18 = .ok (.iconst 1, 1) := by decide +kernel
theorem dX4_doneWithoutFault_19 : decode cX4_doneWithoutFault 19 = .ok (.goto 4, 3) := by decide +kernel
theorem dX4_doneWithoutFault_22 : decode cX4_doneWithoutFault 22 = .ok (.iconst 0, 1) := by decide +kernel
theorem dX4_doneWithoutFault_23 : decode cX4_doneWithoutFault 23 = .ok (.ireturn, 1) := by decide +kernel
theorem dX4_doneWithoutFault_24 : decode cX4_doneWithoutFault 24 = .ok (.iload_n 2, 1) := by decide +kernel
theorem dX4_doneWithoutFault_25 : decode cX4_doneWithoutFault 25 = .ok (.iconst 5, 1) := by decide +kernel
theorem dX4_doneWithoutFault_26 : decode cX4_doneWithoutFault 26 = .ok (.if_icmp .gt 46, 3) := by decide +kernel
theorem dX4_doneWithoutFault_29 : decode cX4_doneWithoutFault 29 = .ok (.iload_n 3, 1) := by decide +kernel
theorem dX4_doneWithoutFault_30 : decode cX4_doneWithoutFault 30 = .ok (.invokestatic 185, 3) := by decide +kernel
theorem dX4_doneWithoutFault_33 : decode cX4_doneWithoutFault 33 = .ok (.ifCond .eq 19, 3) := by decide +kernel
theorem dX4_doneWithoutFault_36 : decode cX4_doneWithoutFault 36 = .ok (.aload_n 0, 1) := by decide +kernel
theorem dX4_doneWithoutFault_37 : decode cX4_doneWithoutFault 37 = .ok (.aload_n 1, 1) := by decide +kernel
theorem dX4_doneWithoutFault_38 : decode cX4_doneWithoutFault 38 = .ok (.iload_n 2, 1) := by decide +kernel
theorem dX4_doneWithoutFault_39 : decode cX4_doneWithoutFault 39 = .ok (.iconst 1, 1) := by decide +kernel
theorem dX4_doneWithoutFault_40 : decode cX4_doneWithoutFault 40 = .ok (.isub, 1) := by decide +kernel
theorem dX4_doneWithoutFault_41 : decode cX4_doneWithoutFault 41 = .ok (.iload_n 3, 1) := by decide +kernel
theorem dX4_doneWithoutFault_42 : decode cX4_doneWithoutFault 42 = .ok (.invokevirtual 131, 3) := by decide +kernel
theorem dX4_doneWithoutFault_45 : decode cX4_doneWithoutFault 45 = .ok (.ifCond .ne 7, 3) := by decide +kernel
theorem dX4_doneWithoutFault_48 : decode cX4_doneWithoutFault 48 = .ok (.iconst 1, 1) := by decide +kernel
theorem dX4_doneWithoutFault_49 : decode cX4_doneWithoutFault 49 = .ok (.goto 4, 3) := by decide +kernel
theorem dX4_doneWithoutFault_52 : decode cX4_doneWithoutFault 52 = .ok (.iconst 0, 1) := by decide +kernel
theorem dX4_doneWithoutFault_53 : decode cX4_doneWithoutFault 53 = .ok (.istore 4, 2) := by decide +kernel
theorem dX4_doneWithoutFault_55 : decode cX4_doneWithoutFault 55 = .ok (.iload 4, 2) := by decide +kernel
theorem dX4_doneWithoutFault_57 : decode cX4_doneWithoutFault 57 = .ok (.ifCond .eq 12, 3) := by decide +kernel
theorem dX4_doneWithoutFault_60 : decode cX4_doneWithoutFault 60 = .ok (.aload_n 0, 1) := by decide +kernel
theorem dX4_doneWithoutFault_61 : decode cX4_doneWithoutFault 61 = .ok (.aload_n 1, 1) := by decide +kernel
theorem dX4_doneWithoutFault_62 : decode cX4_doneWithoutFault 62 = .ok (.iload_n 2, 1) := by decide +kernel
theorem dX4_doneWithoutFault_63 : decode cX4_doneWithoutFault 63 = .ok (.iconst 1, 1) := by decide +kernel
theorem dX4_doneWithoutFault_64 : decode cX4_doneWithoutFault 64 = .ok (.isub, 1) := by decide +kernel
theorem dX4_doneWithoutFault_65 : decode cX4_doneWithoutFault 65 = .ok (.iload_n 3, 1) := by decide +kernel
theorem dX4_doneWithoutFault_66 : decode cX4_doneWithoutFault 66 = .ok (.invokevirtual 148, 3) := by decide +kernel
theorem dX4_doneWithoutFault_69 : decode cX4_doneWithoutFault 69 = .ok (.iload 4, 2) := by decide +kernel
theorem dX4_doneWithoutFault_71 : decode cX4_doneWithoutFault 71 = .ok (.ireturn, 1) := by decide +kernel
theorem dX4_doneWithoutFault_72 : decode cX4_doneWithoutFault 72 = .ok (.aload_n 0, 1) := by decide +kernel
theorem dX4_doneWithoutFault_73 : decode cX4_doneWithoutFault 73 = .ok (.iload_n 3, 1) := by decide +kernel
theorem dX4_doneWithoutFault_74 : decode cX4_doneWithoutFault 74 = .ok (.invokevirtual 113, 3) := by decide +kernel
theorem dX4_doneWithoutFault_77 : decode cX4_doneWithoutFault 77 = .ok (.ifCond .ne 5, 3) := by decide +kernel
theorem dX4_doneWithoutFault_80 : decode cX4_doneWithoutFault 80 = .ok (.iconst 0, 1) := by decide +kernel
theorem dX4_doneWithoutFault_81 : decode cX4_doneWithoutFault 81 = .ok (.ireturn, 1) := by decide +kernel
theorem dX4_doneWithoutFault_82 : decode cX4_doneWithoutFault 82 = .ok (.iload_n 2, 1) := by decide +kernel
theorem dX4_doneWithoutFault_83 : decode cX4_doneWithoutFault 83 = .ok (.bipush 6, 2) := by decide +kernel
theorem dX4_doneWithoutFault_85 : decode cX4_doneWithoutFault 85 = .ok (.if_icmp .ne 30, 3) := by decide +kernel
theorem dX4_doneWithoutFault_88 : decode cX4_doneWithoutFault 88 = .ok (.aload_n 1, 1) := by decide +kernel
theorem dX4_doneWithoutFault_89 : decode cX4_doneWithoutFault 89 = .ok (.getfield 117, 3) := by decide +kernel
theorem dX4_doneWithoutFault_92 : decode cX4_doneWithoutFault 92 = .ok (.iload_n 3, 1) := by decide +kernel
theorem dX4_doneWithoutFault_93 : decode cX4_doneWithoutFault 93 = .ok (.iaload, 1) := by decide +kernel
theorem dX4_doneWithoutFault_94 : decode cX4_doneWithoutFault 94 = .ok (.iconst 3, 1) := by decide +kernel
theorem dX4_doneWithoutFault_95 : decode cX4_doneWithoutFault 95 = .ok (.if_icmp .eq 7, 3) := by decide +kernel
theorem dX4_doneWithoutFault_98 : decode cX4_doneWithoutFault 98 = .ok (.iconst 1, 1) := by decide +kernel
theorem dX4_doneWithoutFault_99 : decode cX4_doneWithoutFault 99 = .ok (.goto 4, 3) := by decide +kernel
theorem dX4_doneWithoutFault_102 : decode cX4_doneWithoutFault 102 = .ok (.iconst 0, 1) := by decide +kernel
theorem dX4_doneWithoutFault_103 : decode cX4_doneWithoutFault 103 = .ok (.istore 4, 2) := by decide +kernel
theorem dX4_doneWithoutFault_105 : decode cX4_doneWithoutFault 105 = .ok (.aload_n 1, 1) := by decide +kernel
theorem dX4_doneWithoutFault_106 : decode cX4_doneWithoutFault 106 = .ok (.getfield 117, 3) := by decide +kernel
theorem dX4_doneWithoutFault_109 : decode cX4_doneWithoutFault 109 = .ok (.iload_n 3, 1) := by decide +kernel
theorem dX4_doneWithoutFault_110 : decode cX4_doneWithoutFault 110 = .ok (.iconst 3, 1) := by decide +kernel
theorem dX4_doneWithoutFault_111 : decode cX4_doneWithoutFault 111 = .ok (.iastore, 1) := by decide +kernel
theorem dX4_doneWithoutFault_112 : decode cX4_doneWithoutFault 112 = .ok (.iload 4, 2) := by decide +kernel
theorem dX4_doneWithoutFault_114 : decode cX4_doneWithoutFault 114 = .ok (.ireturn, 1) := by decide +kernel
theorem dX4_doneWithoutFault_115 : decode cX4_doneWithoutFault 115 = .ok (.iload_n 2, 1) := by decide +kernel
theorem dX4_doneWithoutFault_116 : decode cX4_doneWithoutFault 116 = .ok (.bipush 7, 2) := by decide +kernel
theorem dX4_doneWithoutFault_118 : decode cX4_doneWithoutFault 118 = .ok (.if_icmp .ne 16, 3) := by decide +kernel
theorem dX4_doneWithoutFault_121 : decode cX4_doneWithoutFault 121 = .ok (.aload_n 1, 1) := by decide +kernel
theorem dX4_doneWithoutFault_122 : decode cX4_doneWithoutFault 122 = .ok (.getfield 120, 3) := by decide +kernel
theorem dX4_doneWithoutFault_125 : decode cX4_doneWithoutFault 125 = .ok (.iload_n 3, 1) := by decide +kernel
theorem dX4_doneWithoutFault_126 : decode cX4_doneWithoutFault 126 = .ok (.iaload, 1) := by decide +kernel
theorem dX4_doneWithoutFault_127 : decode cX4_doneWithoutFault 127 = .ok (.ifCond .eq 7, 3) := by decide +kernel
theorem dX4_doneWithoutFault_130 : decode cX4_doneWithoutFault 130 = .ok (.iconst 1, 1) := by decide +kernel
theorem dX4_doneWithoutFault_131 : decode cX4_doneWithoutFault 131 = .ok (.goto 4, 3) := by decide +kernel
theorem dX4_doneWithoutFault_134 : decode cX4_doneWithoutFault 134 = .ok (.iconst 0, 1) := by decide +kernel
theorem dX4_doneWithoutFault_135 : decode cX4_doneWithoutFault 135 = .ok (.istore 4, 2) := by decide +kernel
theorem dX4_doneWithoutFault_137 : decode cX4_doneWithoutFault 137 = .ok (.aload_n 1, 1) := by decide +kernel
theorem dX4_doneWithoutFault_138 : decode cX4_doneWithoutFault 138 = .ok (.getfield 120, 3) := by decide +kernel
theorem dX4_doneWithoutFault_141 : decode cX4_doneWithoutFault 141 = .ok (.iload_n 3, 1) := by decide +kernel
theorem dX4_doneWithoutFault_142 : decode cX4_doneWithoutFault 142 = .ok (.iconst 0, 1) := by decide +kernel
theorem dX4_doneWithoutFault_143 : decode cX4_doneWithoutFault 143 = .ok (.iastore, 1) := by decide +kernel
theorem dX4_doneWithoutFault_144 : decode cX4_doneWithoutFault 144 = .ok (.iload 4, 2) := by decide +kernel
theorem dX4_doneWithoutFault_146 : decode cX4_doneWithoutFault 146 = .ok (.ireturn, 1) := by decide +kernel
set_option maxRecDepth 20000 in
theorem ggX4_liveThrough_X4_wouldGo : GoodIn wsX4_liveThrough wsX4_wouldGo := goodIn_r _ [5, 6, 7, 8, 4, 9, 10, 11, 12, 13, 14, 15, 16, 17, 18, 19, 20, 21, 22, 23, 24, 25, 26, 27, 28, 29, 30, 31, 32, 33, 34, 35, 36, 37, 38, 39, 40, 41, 42, 43, 44, 45, 46, 47, 48, 49, 50, 51, 52, 53, 54, 55, 67, 68, 69, 70, 71, 72, 73, 74, 75, 76, 77, 78, 79, 80, 81, 82, 83, 84, 85, 86, 87, 88, 89] (by decide +kernel) (by decide +kernel)
set_option maxRecDepth 20000 in
theorem gX4_liveThrough_X4_wouldGo : GoodIn wsX4_liveThrough (wsV RX4 141 RX4 yX4_wouldGo wsX4_wouldGo) := goodIn_app (goodIn_of _ (by decide +kernel)) ggX4_liveThrough_X4_wouldGo
set_option maxRecDepth 20000 in
theorem ggX4_liveThrough_X4_go : GoodIn wsX4_liveThrough wsX4_go := goodIn_r _ [59, 6, 7, 8, 4, 9, 10, 11, 12, 13, 14, 15, 16, 17, 18, 19, 20, 21, 22, 23, 24, 25, 26, 27, 28, 29, 30, 31, 32, 33, 34, 35, 36, 37, 38, 39, 40, 41, 60, 61, 62, 63, 64, 65, 66, 67, 68, 69, 70, 71, 72, 73, 74, 75, 76, 77, 78, 79, 80, 81, 82, 83, 84, 85, 86, 87, 88, 89] (by decide +kernel) (by decide +kernel)
set_option maxRecDepth 20000 in
theorem gX4_liveThrough_X4_go : GoodIn wsX4_liveThrough (wsV RX4 148 RX4 yX4_go wsX4_go) := goodIn_app (goodIn_of _ (by decide +kernel)) ggX4_liveThrough_X4_go
theorem dX4_liveThrough_0 : decode cX4_liveThrough 0 = .ok (.aload_n 0, 1) := by decide +kernel
theorem dX4_liveThrough_1 : decode cX4_liveThrough 1 = .ok (.aload_n 1, 1) := by decide +kernel
theorem dX4_liveThrough_2 : decode cX4_liveThrough 2 = .ok (.iload_n 2, 1) := by decide +kernel
theorem dX4_liveThrough_3 : decode cX4_liveThrough 3 = .ok (.iload_n 3, 1) := by decide +kernel
theorem dX4_liveThrough_4 : decode cX4_liveThrough 4 = .ok (.invokevirtual 141, 3) := by decide +kernel
theorem dX4_liveThrough_7 : decode cX4_liveThrough 7 = .ok (.ifCond .eq 13, 3) := by decide +kernel
theorem dX4_liveThrough_10 : decode cX4_liveThrough 10 = .ok (.aload_n 0, 1) := by decide +kernel
theorem dX4_liveThrough_11 : decode cX4_liveThrough 11 = .ok (.aload_n 1, 1) := by decide +kernel
theorem dX4_liveThrough_12 : decode cX4_liveThrough 12 = .ok (.iload_n 2, 1) := by decide +kernel
theorem dX4_liveThrough_13 : decode cX4_liveThrough 13 = .ok (.iload_n 3, 1) := by decide +kernel
theorem dX4_liveThrough_14 : decode cX4_liveThrough 14 = .ok (.invokevirtual 148, 3) := by decide +kernel
theorem dX4_liveThrough_17 : decode cX4_liveThrough 17 = .ok (.goto 13, 3) := by decide +kernel
theorem dX4_liveThrough_20 : decode cX4_liveThrough 20 = .ok (.aload_n 1, 1) := by decide +kernel
theorem dX4_liveThrough_21 : decode cX4_liveThrough 21 = .ok (.dup, 1) := by decide +kernel
theorem dX4_liveThrough_22 : decode cX4_liveThrough 22 = .ok (.getfield 86, 3) := by decide +kernel
theorem dX4_liveThrough_25 : decode cX4_liveThrough 25 = .ok (.iconst 1, 1) := by decide +kernel
theorem dX4_liveThrough_26 : decode cX4_liveThrough 26 = .ok (.iadd, 1) := by decide +kernel
theorem dX4_liveThrough_27 : decode cX4_liveThrough 27 = .ok (.putfield 86, 3) := by decide +kernel
theorem dX4_liveThrough_30 : decode cX4_liveThrough 30 = .ok (.return_, 1) := by decide +kernel
set_option maxRecDepth 20000 in
theorem ggX4_spread_X4_forbiddersFrom : GoodIn wsX4_spread wsX4_forbiddersFrom := goodIn_r _ [6, 7, 8, 9, 10, 5, 11, 12, 13, 14, 15, 16, 17, 18, 19, 20, 21, 22, 23, 24, 25, 26, 27, 28, 29, 30, 31, 32, 33, 34, 35, 36, 37, 38, 39, 40, 41, 42, 43, 44, 45, 46, 47, 48, 49, 50, 51, 52, 53, 54, 55, 56, 57] (by decide +kernel) (by decide +kernel)
set_option maxRecDepth 20000 in
theorem gX4_spread_X4_forbiddersFrom : GoodIn wsX4_spread (wsV RX4 239 RX4 yX4_forbiddersFrom wsX4_forbiddersFrom) := goodIn_app (goodIn_of _ (by decide +kernel)) ggX4_spread_X4_forbiddersFrom
set_option maxRecDepth 20000 in
theorem ggX4_spread_X4_nextStone : GoodIn wsX4_spread wsX4_nextStone := goodIn_r _ [11] (by decide +kernel) (by decide +kernel)
set_option maxRecDepth 20000 in
theorem gX4_spread_X4_nextStone : GoodIn wsX4_spread (va_wsS RX4 236 yX4_nextStone wsX4_nextStone) := goodIn_app (goodIn_of _ (by decide +kernel)) ggX4_spread_X4_nextStone
theorem dX4_spread_0 : decode cX4_spread 0 = .ok (.iload_n 2, 1) := by decide +kernel
theorem dX4_spread_1 : decode cX4_spread 1 = .ok (.istore 5, 2) := by decide +kernel
theorem dX4_spread_3 : decode cX4_spread 3 = .ok (.iconst 0, 1) := by decide +kernel
theorem dX4_spread_4 : decode cX4_spread 4 = .ok (.istore 6, 2) := by decide +kernel
theorem dX4_spread_6 : decode cX4_spread 6 = .ok (.iload 6, 2) := by decide +kernel
theorem dX4_spread_8 : decode cX4_spread 8 = .ok (.bipush 10, 2) := by decide +kernel
theorem dX4_spread_10 : decode cX4_spread 10 = .ok (.if_icmp .ge 77, 3) := by decide +kernel
theorem dX4_spread_13 : decode cX4_spread 13 = .ok (.iconst 0, 1) := by decide +kernel
theorem dX4_spread_14 : decode cX4_spread 14 = .ok (.istore 7, 2) := by decide +kernel
theorem dX4_spread_16 : decode cX4_spread 16 = .ok (.iload 7, 2) := by decide +kernel
theorem dX4_spread_18 : decode cX4_spread 18 = .ok (.iconst 1, 1) := by decide +kernel
theorem dX4_spread_19 : decode cX4_spread 19 = .ok (.if_icmp .gt 62, 3) := by decide +kernel
theorem dX4_spread_22 : decode cX4_spread 22 = .ok (.iload_n 2, 1) := by decide +kernel
theorem dX4_spread_23 : decode cX4_spread 23 = .ok (.iload 6, 2) := by decide +kernel
theorem dX4_spread_25 : decode cX4_spread 25 = .ok (.ishr, 1) := by decide +kernel
theorem dX4_spread_26 : decode cX4_spread 26 = .ok (.iconst 1, 1) := by decide +kernel
theorem dX4_spread_27 : decode cX4_spread 27 = .ok (.iand, 1) := by decide +kernel
theorem dX4_spread_28 : decode cX4_spread 28 = .ok (.ifCond .eq 53, 3) := by decide +kernel
theorem dX4_spread_31 : decode cX4_spread 31 = .ok (.aload_n 0, 1) := by decide +kernel
theorem dX4_spread_32 : decode cX4_spread 32 = .ok (.aload_n 0, 1) := by decide +kernel
theorem dX4_spread_33 : decode cX4_spread 33 = .ok (.getfield 34, 3) := by decide +kernel
theorem dX4_spread_36 : decode cX4_spread 36 = .ok (.iload_n 1, 1) := by decide +kernel
theorem dX4_spread_37 : decode cX4_spread 37 = .ok (.iload 6, 2) := by decide +kernel
theorem dX4_spread_39 : decode cX4_spread 39 = .ok (.iload 7, 2) := by decide +kernel
theorem dX4_spread_41 : decode cX4_spread 41 = .ok (.iload_n 3, 1) := by decide +kernel
theorem dX4_spread_42 : decode cX4_spread 42 = .ok (.invokevirtual 239, 3) := by decide +kernel
theorem dX4_spread_45 : decode cX4_spread 45 = .ok (.istore 8, 2) := by decide +kernel
theorem dX4_spread_47 : decode cX4_spread 47 = .ok (.iload 8, 2) := by decide +kernel
theorem dX4_spread_49 : decode cX4_spread 49 = .ok (.iconst (-1), 1) := by decide +kernel
theorem dX4_spread_50 : decode cX4_spread 50 = .ok (.if_icmp .eq 25, 3) := by decide +kernel
theorem dX4_spread_53 : decode cX4_spread 53 = .ok (.iload 8, 2) := by decide +kernel
theorem dX4_spread_55 : decode cX4_spread 55 = .ok (.iload 4, 2) := by decide +kernel
theorem dX4_spread_57 : decode cX4_spread 57 = .ok (.iand, 1) := by decide +kernel
theorem dX4_spread_58 : decode cX4_spread 58 = .ok (.ifCond .ne 17, 3) := by decide +kernel
theorem dX4_spread_61 : decode cX4_spread 61 = .ok (.iload 5, 2) := by decide +kernel
theorem dX4_spread_63 : decode cX4_spread 63 = .ok (.iconst 1, 1) := by decide +kernel
theorem dX4_spread_64 : decode cX4_spread 64 = .ok (.iload 6, 2) := by decide +kernel
theorem dX4_spread_66 : decode cX4_spread 66 = .ok (.iload 7, 2) := by decide +kernel
theorem dX4_spread_68 : decode cX4_spread 68 = .ok (.invokestatic 236, 3) := by decide +kernel
theorem dX4_spread_71 : decode cX4_spread 71 = .ok (.ishl, 1) := by decide +kernel
theorem dX4_spread_72 : decode cX4_spread 72 = .ok (.ior, 1) := by decide +kernel
theorem dX4_spread_73 : decode cX4_spread 73 = .ok (.istore 5, 2) := by decide +kernel
theorem dX4_spread_75 : decode cX4_spread 75 = .ok (.iinc 7 1, 3) := by decide +kernel
theorem dX4_spread_78 : decode cX4_spread 78 = .ok (.goto (-62), 3) := by decide +kernel
theorem dX4_spread_81 : decode cX4_spread 81 = .ok (.iinc 6 1, 3) := by decide +kernel
theorem dX4_spread_84 : decode cX4_spread 84 = .ok (.goto (-78), 3) := by decide +kernel
theorem dX4_spread_87 : decode cX4_spread 87 = .ok (.iload 5, 2) := by decide +kernel
theorem dX4_spread_89 : decode cX4_spread 89 = .ok (.ireturn, 1) := by decide +kernel
set_option maxRecDepth 20000 in
theorem ggX4_keepsAllIfShown_X4_isMule : GoodIn wsX4_keepsAllIfShown wsX4_isMule := goodIn_r _ [6, 7, 49, 50, 51, 52, 53, 54, 55, 56, 57, 58, 59, 60, 61, 62] (by decide +kernel) (by decide +kernel)
set_option maxRecDepth 20000 in
theorem gX4_keepsAllIfShown_X4_isMule : GoodIn wsX4_keepsAllIfShown (wsV RX4 113 RX4 yX4_isMule wsX4_isMule) := goodIn_app (goodIn_of _ (by decide +kernel)) ggX4_keepsAllIfShown_X4_isMule
set_option maxRecDepth 20000 in
theorem ggX4_keepsAllIfShown_X4_knownIfShown : GoodIn wsX4_keepsAllIfShown wsX4_knownIfShown := goodIn_r _ [11, 12, 13, 14, 15, 16, 17, 18, 19, 20, 49, 50, 51, 52, 53, 54, 55, 56, 57, 58, 59, 60, 61, 62, 68, 69, 70, 71] (by decide +kernel) (by decide +kernel)
set_option maxRecDepth 20000 in
theorem gX4_keepsAllIfShown_X4_knownIfShown : GoodIn wsX4_keepsAllIfShown (wsV RX4 230 RX4 yX4_knownIfShown wsX4_knownIfShown) := goodIn_app (goodIn_of _ (by decide +kernel)) ggX4_keepsAllIfShown_X4_knownIfShown
set_option maxRecDepth 20000 in
theorem ggX4_keepsAllIfShown_X4_forbidders : GoodIn wsX4_keepsAllIfShown wsX4_forbidders := goodIn_r _ [24, 2, 3, 4, 5, 6, 7, 25, 26, 27, 28, 12, 29, 30, 31, 32, 33, 34, 35, 36, 37, 38, 39, 40, 14, 41, 42, 17, 43, 44, 45, 46, 47, 48, 63, 64, 65, 66, 67, 49, 50, 51, 52, 53, 54, 55, 56, 57, 58, 59, 60, 61, 62, 68, 69, 70, 71] (by decide +kernel) (by decide +kernel)
set_option maxRecDepth 20000 in
theorem gX4_keepsAllIfShown_X4_forbidders : GoodIn wsX4_keepsAllIfShown (wsV RX4 131 RX4 yX4_forbidders wsX4_forbidders) := goodIn_app (goodIn_of _ (by decide +kernel)) ggX4_keepsAllIfShown_X4_forbidders
theorem dX4_keepsAllIfShown_0 : decode cX4_keepsAllIfShown 0 = .ok (.aload_n 0, 1) := by decide +kernel
theorem dX4_keepsAllIfShown_1 : decode cX4_keepsAllIfShown 1 = .ok (.iload_n 1, 1) := by decide +kernel
theorem dX4_keepsAllIfShown_2 : decode cX4_keepsAllIfShown 2 = .ok (.invokevirtual 113, 3) := by decide +kernel
theorem dX4_keepsAllIfShown_5 : decode cX4_keepsAllIfShown 5 = .ok (.ifCond .ne 5, 3) := by decide +kernel
theorem dX4_keepsAllIfShown_8 : decode cX4_keepsAllIfShown 8 = .ok (.iconst 0, 1) := by decide +kernel
theorem dX4_keepsAllIfShown_9 : decode cX4_keepsAllIfShown 9 = .ok (.ireturn, 1) := by decide +kernel
theorem dX4_keepsAllIfShown_10 : decode cX4_keepsAllIfShown 10 = .ok (.aload_n 0, 1) := by decide +kernel
theorem dX4_keepsAllIfShown_11 : decode cX4_keepsAllIfShown 11 = .ok (.aload_n 0, 1) := by decide +kernel
theorem dX4_keepsAllIfShown_12 : decode cX4_keepsAllIfShown 12 = .ok (.getfield 34, 3) := by decide +kernel
theorem dX4_keepsAllIfShown_15 : decode cX4_keepsAllIfShown 15 = .ok (.getfield 117, 3) := by decide +kernel
theorem dX4_keepsAllIfShown_18 : decode cX4_keepsAllIfShown 18 = .ok (.iload_n 1, 1) := by decide +kernel
theorem dX4_keepsAllIfShown_19 : decode cX4_keepsAllIfShown 19 = .ok (.iaload, 1) := by decide +kernel
theorem dX4_keepsAllIfShown_20 : decode cX4_keepsAllIfShown 20 = .ok (.aload_n 0, 1) := by decide +kernel
theorem dX4_keepsAllIfShown_21 : decode cX4_keepsAllIfShown 21 = .ok (.getfield 34, 3) := by decide +kernel
theorem dX4_keepsAllIfShown_24 : decode cX4_keepsAllIfShown 24 = .ok (.getfield 120, 3) := by decide +kernel
theorem dX4_keepsAllIfShown_27 : decode cX4_keepsAllIfShown 27 = .ok (.iload_n 1, 1) := by decide +kernel
theorem dX4_keepsAllIfShown_28 : decode cX4_keepsAllIfShown 28 = .ok (.iaload, 1) := by decide +kernel
theorem dX4_keepsAllIfShown_29 : decode cX4_keepsAllIfShown 29 = .ok (.iload_n 2, 1) := by decide +kernel
theorem dX4_keepsAllIfShown_30 : decode cX4_keepsAllIfShown 30 = .ok (.ior, 1) := by decide +kernel
theorem dX4_keepsAllIfShown_31 : decode cX4_keepsAllIfShown 31 = .ok (.invokevirtual 230, 3) := by decide +kernel
theorem dX4_keepsAllIfShown_34 : decode cX4_keepsAllIfShown 34 = .ok (.istore_n 3, 1) := by decide +kernel
theorem dX4_keepsAllIfShown_35 : decode cX4_keepsAllIfShown 35 = .ok (.iconst 0, 1) := by decide +kernel
theorem dX4_keepsAllIfShown_36 : decode cX4_keepsAllIfShown 36 = .ok (.istore 4, 2) := by decide +kernel
theorem dX4_keepsAllIfShown_38 : decode cX4_keepsAllIfShown 38 = .ok (.iload 4, 2) := by decide +kernel
theorem dX4_keepsAllIfShown_40 : decode cX4_keepsAllIfShown 40 = .ok (.iconst 1, 1) := by decide +kernel
theorem dX4_keepsAllIfShown_41 : decode cX4_keepsAllIfShown 41 = .ok (.if_icmp .gt 42, 3) := by decide +kernel
theorem dX4_keepsAllIfShown_44 : decode cX4_keepsAllIfShown 44 = .ok (.aload_n 0, 1) := by decide +kernel
theorem dX4_keepsAllIfShown_45 : decode cX4_keepsAllIfShown 45 = .ok (.aload_n 0, 1) := by decide +kernel
theorem dX4_keepsAllIfShown_46 : decode cX4_keepsAllIfShown 46 = .ok (.getfield 34, 3) := by decide +kernel
theorem dX4_keepsAllIfShown_49 : decode cX4_keepsAllIfShown 49 = .ok (.iload_n 1, 1) := by decide +kernel
theorem dX4_keepsAllIfShown_50 : decode cX4_keepsAllIfShown 50 = .ok (.iload 4, 2) := by decide +kernel
theorem dX4_keepsAllIfShown_52 : decode cX4_keepsAllIfShown 52 = .ok (.invokevirtual 131, 3) := by decide +kernel
theorem dX4_keepsAllIfShown_55 : decode cX4_keepsAllIfShown 55 = .ok (.istore 5, 2) := by decide +kernel
theorem dX4_keepsAllIfShown_57 : decode cX4_keepsAllIfShown 57 = .ok (.iload 5, 2) := by decide +kernel
theorem dX4_keepsAllIfShown_59 : decode cX4_keepsAllIfShown 59 = .ok (.iconst (-1), 1) := by decide +kernel
theorem dX4_keepsAllIfShown_60 : decode cX4_keepsAllIfShown 60 = .ok (.if_icmp .eq 17, 3) := by decide +kernel
theorem dX4_keepsAllIfShown_63 : decode cX4_keepsAllIfShown 63 = .ok (.iload 5, 2) := by decide +kernel
theorem dX4_keepsAllIfShown_65 : decode cX4_keepsAllIfShown 65 = .ok (.ifCond .eq 12, 3) := by decide +kernel
theorem dX4_keepsAllIfShown_68 : decode cX4_keepsAllIfShown 68 = .ok (.iload 5, 2) := by decide +kernel
theorem dX4_keepsAllIfShown_70 : decode cX4_keepsAllIfShown 70 = .ok (.iload_n 3, 1) := by decide +kernel
theorem dX4_keepsAllIfShown_71 : decode cX4_keepsAllIfShown 71 = .ok (.iand, 1) := by decide +kernel
theorem dX4_keepsAllIfShown_72 : decode cX4_keepsAllIfShown 72 = .ok (.ifCond .ne 5, 3) := by decide +kernel
theorem dX4_keepsAllIfShown_75 : decode cX4_keepsAllIfShown 75 = .ok (.iconst 0, 1) := by decide +kernel
theorem dX4_keepsAllIfShown_76 : decode cX4_keepsAllIfShown 76 = .ok (.ireturn, 1) := by decide +kernel
theorem dX4_keepsAllIfShown_77 : decode cX4_keepsAllIfShown 77 = .ok (.iinc 4 1, 3) := by decide +kernel
theorem dX4_keepsAllIfShown_80 : decode cX4_keepsAllIfShown 80 = .ok (.goto (-42), 3) := by decide +kernel
theorem dX4_keepsAllIfShown_83 : decode cX4_keepsAllIfShown 83 = .ok (.iconst 1, 1) := by decide +kernel
theorem dX4_keepsAllIfShown_84 : decode cX4_keepsAllIfShown 84 = .ok (.ireturn, 1) := by decide +kernel
set_option maxRecDepth 20000 in
theorem ggX4_sixtiethsOfStep_J6_bitCount_0f7a4 : GoodIn wsX4_sixtiethsOfStep wsJ6_bitCount_0f7a4 := goodIn_r _ [4, 5, 6, 7] (by decide +kernel) (by decide +kernel)
set_option maxRecDepth 20000 in
theorem gX4_sixtiethsOfStep_J6_bitCount_0f7a4 : GoodIn wsX4_sixtiethsOfStep (va_wsS RX4 152 yJ6_bitCount_0f7a4 wsJ6_bitCount_0f7a4) := goodIn_app (goodIn_of _ (by decide +kernel)) ggX4_sixtiethsOfStep_J6_bitCount_0f7a4
theorem dX4_sixtiethsOfStep_0 : decode cX4_sixtiethsOfStep 0 = .ok (.iload_n 0, 1) := by decide +kernel
theorem dX4_sixtiethsOfStep_1 : decode cX4_sixtiethsOfStep 1 = .ok (.iconst (-1), 1) := by decide +kernel
theorem dX4_sixtiethsOfStep_2 : decode cX4_sixtiethsOfStep 2 = .ok (.if_icmp .eq 11, 3) := by decide +kernel
theorem dX4_sixtiethsOfStep_5 : decode cX4_sixtiethsOfStep 5 = .ok (.iload_n 0, 1) := by decide +kernel
theorem dX4_sixtiethsOfStep_6 : decode cX4_sixtiethsOfStep 6 = .ok (.iload_n 1, 1) := by decide +kernel
theorem dX4_sixtiethsOfStep_7 : decode cX4_sixtiethsOfStep 7 = .ok (.ishr, 1) := by decide +kernel
theorem dX4_sixtiethsOfStep_8 : decode cX4_sixtiethsOfStep 8 = .ok (.iconst 1, 1) := by decide +kernel
theorem dX4_sixtiethsOfStep_9 : decode cX4_sixtiethsOfStep 9 = .ok (.iand, 1) := by decide +kernel
theorem dX4_sixtiethsOfStep_10 : decode cX4_sixtiethsOfStep 10 = .ok (.ifCond .ne 5, 3) := by decide +kernel
theorem dX4_sixtiethsOfStep_13 : decode cX4_sixtiethsOfStep 13 = .ok (.iconst 0, 1) := by decide +kernel
theorem dX4_sixtiethsOfStep_14 : decode cX4_sixtiethsOfStep 14 = .ok (.ireturn, 1) := by decide +kernel
theorem dX4_sixtiethsOfStep_15 : decode cX4_sixtiethsOfStep 15 = .ok (.iload_n 0, 1) := by decide +kernel
theorem dX4_sixtiethsOfStep_16 : decode cX4_sixtiethsOfStep 16 = .ok (.invokestatic 152, 3) := by decide +kernel
theorem dX4_sixtiethsOfStep_19 : decode cX4_sixtiethsOfStep 19 = .ok (.istore_n 2, 1) := by decide +kernel
theorem dX4_sixtiethsOfStep_20 : decode cX4_sixtiethsOfStep 20 = .ok (.iload_n 2, 1) := by decide +kernel
theorem dX4_sixtiethsOfStep_21 : decode cX4_sixtiethsOfStep 21 = .ok (.ifCond .ne 7, 3) := by decide +kernel
theorem dX4_sixtiethsOfStep_24 : decode cX4_sixtiethsOfStep 24 = .ok (.iconst 0, 1) := by decide +kernel
theorem dX4_sixtiethsOfStep_25 : decode cX4_sixtiethsOfStep 25 = .ok (.goto 7, 3) := by decide +kernel
theorem dX4_sixtiethsOfStep_28 : decode cX4_sixtiethsOfStep 28 = .ok (.bipush 60, 2) := by decide +kernel
theorem dX4_sixtiethsOfStep_30 : decode cX4_sixtiethsOfStep 30 = .ok (.iload_n 2, 1) := by decide +kernel
theorem dX4_sixtiethsOfStep_31 : decode cX4_sixtiethsOfStep 31 = .ok (.idiv, 1) := by decide +kernel
theorem dX4_sixtiethsOfStep_32 : decode cX4_sixtiethsOfStep 32 = .ok (.ireturn, 1) := by decide +kernel
set_option maxRecDepth 20000 in
theorem ggX4_worthOfString_X4_forbidders : GoodIn wsX4_worthOfString wsX4_forbidders := goodIn_r _ [7, 8, 9, 10, 6, 11, 1, 12, 13, 14, 15, 16, 17, 18, 19, 20, 21, 22, 23, 24, 25, 26, 27, 28, 29, 30, 31, 32, 33, 34, 35, 36, 37, 38, 67, 68, 69, 70, 71, 53, 54, 55, 56, 57, 58, 59, 60, 61, 62, 63, 64, 65, 66, 72, 73, 74, 75] (by decide +kernel) (by decide +kernel)
set_option maxRecDepth 20000 in
theorem gX4_worthOfString_X4_forbidders : GoodIn wsX4_worthOfString (wsV RX4 131 RX4 yX4_forbidders wsX4_forbidders) := goodIn_app (goodIn_of _ (by decide +kernel)) ggX4_worthOfString_X4_forbidders
set_option maxRecDepth 20000 in
theorem ggX4_worthOfString_X4_known : GoodIn wsX4_worthOfString wsX4_known := goodIn_r _ [42, 8, 9, 10, 6, 11, 1, 43, 44, 45, 46, 16, 47, 29, 48, 49, 32, 50, 51, 52, 67, 68, 69, 70, 71, 53, 54, 55, 56, 57, 58, 59, 60, 61, 62, 63, 64, 65, 66, 72, 73, 74, 75] (by decide +kernel) (by decide +kernel)
set_option maxRecDepth 20000 in
theorem gX4_worthOfString_X4_known : GoodIn wsX4_worthOfString (wsV RX4 123 RX4 yX4_known wsX4_known) := goodIn_app (goodIn_of _ (by decide +kernel)) ggX4_worthOfString_X4_known
theorem dX4_worthOfString_0 : decode cX4_worthOfString 0 = .ok (.iconst 0, 1) := by decide +kernel
theorem dX4_worthOfString_1 : decode cX4_worthOfString 1 = .ok (.istore_n 1, 1) := by decide +kernel
theorem dX4_worthOfString_2 : decode cX4_worthOfString 2 = .ok (.iconst 0, 1) := by decide +kernel
theorem dX4_worthOfString_3 : decode cX4_worthOfString 3 = .ok (.istore_n 2, 1) := by decide +kernel
theorem dX4_worthOfString_4 : decode cX4_worthOfString 4 = .ok (.iload_n 2, 1) := by decide +kernel
theorem dX4_worthOfString_5 : decode cX4_worthOfString 5 = .ok (.aload_n 0, 1) := by decide +kernel
theorem dX4_worthOfString_6 : decode cX4_worthOfString 6 = .ok (.getfield 27, 3) := by decide +kernel
theorem dX4_worthOfString_9 : decode cX4_worthOfString 9 = .ok (.if_icmp .ge 47, 3) := by decide +kernel
theorem dX4_worthOfString_12 : decode cX4_worthOfString 12 = .ok (.aload_n 0, 1) := by decide +kernel
theorem dX4_worthOfString_13 : decode cX4_worthOfString 13 = .ok (.aload_n 0, 1) := by decide +kernel
theorem dX4_worthOfString_14 : decode cX4_worthOfString 14 = .ok (.getfield 34, 3) := by decide +kernel
theorem dX4_worthOfString_17 : decode cX4_worthOfString 17 = .ok (.iload_n 2, 1) := by decide +kernel
theorem dX4_worthOfString_18 : decode cX4_worthOfString 18 = .ok (.iconst 1, 1) := by decide +kernel
theorem dX4_worthOfString_19 : decode cX4_worthOfString 19 = .ok (.invokevirtual 131, 3) := by decide +kernel
theorem dX4_worthOfString_22 : decode cX4_worthOfString 22 = .ok (.istore_n 3, 1) := by decide +kernel
theorem dX4_worthOfString_23 : decode cX4_worthOfString 23 = .ok (.iload_n 3, 1) := by decide +kernel
theorem dX4_worthOfString_24 : decode cX4_worthOfString 24 = .ok (.iconst (-1), 1) := by decide +kernel
theorem dX4_worthOfString_25 : decode cX4_worthOfString 25 = .ok (.if_icmp .eq 25, 3) := by decide +kernel
theorem dX4_worthOfString_28 : decode cX4_worthOfString 28 = .ok (.iload_n 1, 1) := by decide +kernel
theorem dX4_worthOfString_29 : decode cX4_worthOfString 29 = .ok (.iload_n 3, 1) := by decide +kernel
theorem dX4_worthOfString_30 : decode cX4_worthOfString 30 = .ok (.aload_n 0, 1) := by decide +kernel
theorem dX4_worthOfString_31 : decode cX4_worthOfString 31 = .ok (.aload_n 0, 1) := by decide +kernel
theorem dX4_worthOfString_32 : decode cX4_worthOfString 32 = .ok (.getfield 34, 3) := by decide +kernel
theorem dX4_worthOfString_35 : decode cX4_worthOfString 35 = .ok (.iload_n 2, 1) := by decide +kernel
theorem dX4_worthOfString_36 : decode cX4_worthOfString 36 = .ok (.invokevirtual 123, 3) := by decide +kernel
theorem dX4_worthOfString_39 : decode cX4_worthOfString 39 = .ok (.iand, 1) := by decide +kernel
theorem dX4_worthOfString_40 : decode cX4_worthOfString 40 = .ok (.ifCond .ne 7, 3) := by decide +kernel
theorem dX4_worthOfString_43 : decode cX4_worthOfString 43 = .ok (.iconst 1, 1) := by decide +kernel
theorem dX4_worthOfString_44 : decode cX4_worthOfString 44 = .ok (.goto 4, 3) := by decide +kernel
theorem dX4_worthOfString_47 : decode cX4_worthOfString 47 = .ok (.iconst (-1), 1) := by decide +kernel
theorem dX4_worthOfString_48 : decode cX4_worthOfString 48 = .ok (.iadd, 1) := by decide +kernel
theorem dX4_worthOfString_49 : decode cX4_worthOfString 49 = .ok (.istore_n 1, 1) := by decide +kernel
theorem dX4_worthOfString_50 : decode cX4_worthOfString 50 = .ok (.iinc 2 1, 3) := by decide +kernel
theorem dX4_worthOfString_53 : decode cX4_worthOfString 53 = .ok (.goto (-49), 3) := by decide +kernel
theorem dX4_worthOfString_56 : decode cX4_worthOfString 56 = .ok (.iload_n 1, 1) := by decide +kernel
theorem dX4_worthOfString_57 : decode cX4_worthOfString 57 = .ok (.ireturn, 1) := by decide +kernel
theorem dX4_gain_0 : decode cX4_gain 0 = .ok (.iload_n 0, 1) := by decide +kernel
theorem dX4_gain_1 : decode cX4_gain 1 = .ok (.iconst 1, 1) := by decide +kernel
theorem dX4_gain_2 : decode cX4_gain 2 = .ok (.if_icmp .ne 16, 3) := by decide +kernel
theorem dX4_gain_5 : decode cX4_gain 5 = .ok (.iload_n 1, 1) := by decide +kernel
theorem dX4_gain_6 : decode cX4_gain 6 = .ok (.iconst 1, 1) := by decide +kernel
theorem dX4_gain_7 : decode cX4_gain 7 = .ok (.if_icmp .ne 9, 3) := by decide +kernel
theorem dX4_gain_10 : decode cX4_gain 10 = .ok (.iload_n 2, 1) := by decide +kernel
theorem dX4_gain_11 : decode cX4_gain 11 = .ok (.iconst 2, 1) := by decide +kernel
theorem dX4_gain_12 : decode cX4_gain 12 = .ok (.idiv, 1) := by decide +kernel
theorem dX4_gain_13 : decode cX4_gain 13 = .ok (.goto 4, 3) := by decide +kernel
theorem dX4_gain_16 : decode cX4_gain 16 = .ok (.iload_n 2, 1) := by decide +kernel
theorem dX4_gain_17 : decode cX4_gain 17 = .ok (.ireturn, 1) := by decide +kernel
theorem dX4_gain_18 : decode cX4_gain 18 = .ok (.iload_n 1, 1) := by decide +kernel
theorem dX4_gain_19 : decode cX4_gain 19 = .ok (.iconst 1, 1) := by decide +kernel
theorem dX4_gain_20 : decode cX4_gain 20 = .ok (.if_icmp .ne 7, 3) := by decide +kernel
theorem dX4_gain_23 : decode cX4_gain 23 = .ok (.iconst (-1), 1) := by decide +kernel
theorem dX4_gain_24 : decode cX4_gain 24 = .ok (.goto 4, 3) := by decide +kernel
theorem dX4_gain_27 : decode cX4_gain 27 = .ok (.iconst 0, 1) := by decide +kernel
theorem dX4_gain_28 : decode cX4_gain 28 = .ok (.ireturn, 1) := by decide +kernel
set_option maxRecDepth 20000 in
theorem ggX4_isContent_X4_gain : GoodIn wsX4_isContent wsX4_gain := goodIn_r _ [4] (by decide +kernel) (by decide +kernel)
set_option maxRecDepth 20000 in
theorem gX4_isContent_X4_gain : GoodIn wsX4_isContent (va_wsS RX4 250 yX4_gain wsX4_gain) := goodIn_app (goodIn_of _ (by decide +kernel)) ggX4_isContent_X4_gain
theorem dX4_isContent_0 : decode cX4_isContent 0 = .ok (.iload_n 0, 1) := by decide +kernel
theorem dX4_isContent_1 : decode cX4_isContent 1 = .ok (.iload_n 1, 1) := by decide +kernel
theorem dX4_isContent_2 : decode cX4_isContent 2 = .ok (.iload_n 2, 1) := by decide +kernel
theorem dX4_isContent_3 : decode cX4_isContent 3 = .ok (.invokestatic 250, 3) := by decide +kernel
theorem dX4_isContent_6 : decode cX4_isContent 6 = .ok (.iconst 1, 1) := by decide +kernel
theorem dX4_isContent_7 : decode cX4_isContent 7 = .ok (.iload_n 0, 1) := by decide +kernel
theorem dX4_isContent_8 : decode cX4_isContent 8 = .ok (.isub, 1) := by decide +kernel
theorem dX4_isContent_9 : decode cX4_isContent 9 = .ok (.iload_n 1, 1) := by decide +kernel
theorem dX4_isContent_10 : decode cX4_isContent 10 = .ok (.iload_n 2, 1) := by decide +kernel
theorem dX4_isContent_11 : decode cX4_isContent 11 = .ok (.invokestatic 250, 3) := by decide +kernel
theorem dX4_isContent_14 : decode cX4_isContent 14 = .ok (.if_icmp .lt 7, 3) := by decide +kernel
theorem dX4_isContent_17 : decode cX4_isContent 17 = .ok (.iconst 1, 1) := by decide +kernel
theorem dX4_isContent_18 : decode cX4_isContent 18 = .ok (.goto 4, 3) := by decide +kernel
theorem dX4_isContent_21 : decode cX4_isContent 21 = .ok (.iconst 0, 1) := by decide +kernel
theorem dX4_isContent_22 : decode cX4_isContent 22 = .ok (.ireturn, 1) := by decide +kernel
set_option maxRecDepth 20000 in
theorem ggX4_tenthsToBalk_X4_forbidders : GoodIn wsX4_tenthsToBalk wsX4_forbidders := goodIn_r _ [6, 7, 8, 9, 5, 10, 11, 12, 13, 14, 15, 16, 17, 18, 19, 20, 21, 22, 23, 24, 25, 26, 27, 28, 29, 30, 31, 32, 33, 34, 35, 36, 37, 38, 67, 68, 69, 70, 71, 53, 54, 55, 56, 57, 58, 59, 60, 61, 62, 63, 64, 65, 66, 72, 73, 74, 75] (by decide +kernel) (by decide +kernel)
set_option maxRecDepth 20000 in
theorem gX4_tenthsToBalk_X4_forbidders : GoodIn wsX4_tenthsToBalk (wsV RX4 131 RX4 yX4_forbidders wsX4_forbidders) := goodIn_app (goodIn_of _ (by decide +kernel)) ggX4_tenthsToBalk_X4_forbidders
set_option maxRecDepth 20000 in
theorem ggX4_tenthsToBalk_X4_isMule : GoodIn wsX4_tenthsToBalk wsX4_isMule := goodIn_r _ [10, 11, 53, 54, 55, 56, 57, 58, 59, 60, 61, 62, 63, 64, 65, 66] (by decide +kernel) (by decide +kernel)
set_option maxRecDepth 20000 in
theorem gX4_tenthsToBalk_X4_isMule : GoodIn wsX4_tenthsToBalk (wsV RX4 113 RX4 yX4_isMule wsX4_isMule) := goodIn_app (goodIn_of _ (by decide +kernel)) ggX4_tenthsToBalk_X4_isMule
set_option maxRecDepth 20000 in
theorem ggX4_tenthsToBalk_X4_known : GoodIn wsX4_tenthsToBalk wsX4_known := goodIn_r _ [42, 7, 8, 9, 5, 10, 11, 43, 44, 45, 46, 16, 47, 29, 48, 49, 32, 50, 51, 52, 67, 68, 69, 70, 71, 53, 54, 55, 56, 57, 58, 59, 60, 61, 62, 63, 64, 65, 66, 72, 73, 74, 75] (by decide +kernel) (by decide +kernel)
set_option maxRecDepth 20000 in
theorem gX4_tenthsToBalk_X4_known : GoodIn wsX4_tenthsToBalk (wsV RX4 123 RX4 yX4_known wsX4_known) := goodIn_app (goodIn_of _ (by decide +kernel)) ggX4_tenthsToBalk_X4_known
set_option maxRecDepth 20000 in
theorem ggX4_tenthsToBalk_X4_knownIfShown : GoodIn wsX4_tenthsToBalk wsX4_knownIfShown := goodIn_r _ [46, 16, 47, 29, 48, 49, 32, 50, 51, 52, 53, 54, 55, 56, 57, 58, 59, 60, 61, 62, 63, 64, 65, 66, 72, 73, 74, 75] (by decide +kernel) (by decide +kernel)
set_option maxRecDepth 20000 in
theorem gX4_tenthsToBalk_X4_knownIfShown : GoodIn wsX4_tenthsToBalk (wsV RX4 230 RX4 yX4_knownIfShown wsX4_knownIfShown) := goodIn_app (goodIn_of _ (by decide +kernel)) ggX4_tenthsToBalk_X4_knownIfShown
theorem dX4_tenthsToBalk_0 : decode cX4_tenthsToBalk 0 = .ok (.aload_n 0, 1) := by decide +kernel
theorem dX4_tenthsToBalk_1 : decode cX4_tenthsToBalk 1 = .ok (.aload_n 0, 1) := by decide +kernel
theorem dX4_tenthsToBalk_2 : decode cX4_tenthsToBalk 2 = .ok (.getfield 34, 3) := by decide +kernel
theorem dX4_tenthsToBalk_5 : decode cX4_tenthsToBalk 5 = .ok (.iload_n 1, 1) := by decide +kernel
theorem dX4_tenthsToBalk_6 : decode cX4_tenthsToBalk 6 = .ok (.iload_n 2, 1) := by decide +kernel
theorem dX4_tenthsToBalk_7 : decode cX4_tenthsToBalk 7 = .ok (.invokevirtual 131, 3) := by decide +kernel
theorem dX4_tenthsToBalk_10 : decode cX4_tenthsToBalk 10 = .ok (.istore 4, 2) := by decide +kernel
theorem dX4_tenthsToBalk_12 : decode cX4_tenthsToBalk 12 = .ok (.iload 4, 2) := by decide +kernel
theorem dX4_tenthsToBalk_14 : decode cX4_tenthsToBalk 14 = .ok (.iconst (-1), 1) := by decide +kernel
theorem dX4_tenthsToBalk_15 : decode cX4_tenthsToBalk 15 = .ok (.if_icmp .eq 11, 3) := by decide +kernel
theorem dX4_tenthsToBalk_18 : decode cX4_tenthsToBalk 18 = .ok (.aload_n 0, 1) := by decide +kernel
theorem dX4_tenthsToBalk_19 : decode cX4_tenthsToBalk 19 = .ok (.iload_n 1, 1) := by decide +kernel
theorem dX4_tenthsToBalk_20 : decode cX4_tenthsToBalk 20 = .ok (.invokevirtual 113, 3) := by decide +kernel
theorem dX4_tenthsToBalk_23 : decode cX4_tenthsToBalk 23 = .ok (.ifCond .ne 5, 3) := by decide +kernel
theorem dX4_tenthsToBalk_26 : decode cX4_tenthsToBalk 26 = .ok (.iconst 0, 1) := by decide +kernel
theorem dX4_tenthsToBalk_27 : decode cX4_tenthsToBalk 27 = .ok (.ireturn, 1) := by decide +kernel
theorem dX4_tenthsToBalk_28 : decode cX4_tenthsToBalk 28 = .ok (.iload 4, 2) := by decide +kernel
theorem dX4_tenthsToBalk_30 : decode cX4_tenthsToBalk 30 = .ok (.aload_n 0, 1) := by decide +kernel
theorem dX4_tenthsToBalk_31 : decode cX4_tenthsToBalk 31 = .ok (.aload_n 0, 1) := by decide +kernel
theorem dX4_tenthsToBalk_32 : decode cX4_tenthsToBalk 32 = .ok (.getfield 34, 3) := by decide +kernel
theorem dX4_tenthsToBalk_35 : decode cX4_tenthsToBalk 35 = .ok (.iload_n 1, 1) := by decide +kernel
theorem dX4_tenthsToBalk_36 : decode cX4_tenthsToBalk 36 = .ok (.invokevirtual 123, 3) := by decide +kernel
theorem dX4_tenthsToBalk_39 : decode cX4_tenthsToBalk 39 = .ok (.iand, 1) := by decide +kernel
theorem dX4_tenthsToBalk_40 : decode cX4_tenthsToBalk 40 = .ok (.ifCond .eq 7, 3) := by decide +kernel
theorem dX4_tenthsToBalk_43 : decode cX4_tenthsToBalk 43 = .ok (.iconst 1, 1) := by decide +kernel
theorem dX4_tenthsToBalk_44 : decode cX4_tenthsToBalk 44 = .ok (.goto 4, 3) := by decide +kernel
theorem dX4_tenthsToBalk_47 : decode cX4_tenthsToBalk 47 = .ok (.iconst 0, 1) := by decide +kernel
theorem dX4_tenthsToBalk_48 : decode cX4_tenthsToBalk 48 = .ok (.istore 5, 2) := by decide +kernel
theorem dX4_tenthsToBalk_50 : decode cX4_tenthsToBalk 50 = .ok (.iload 4, 2) := by decide +kernel
theorem dX4_tenthsToBalk_52 : decode cX4_tenthsToBalk 52 = .ok (.aload_n 0, 1) := by decide +kernel
theorem dX4_tenthsToBalk_53 : decode cX4_tenthsToBalk 53 = .ok (.aload_n 0, 1) := by decide +kernel
theorem dX4_tenthsToBalk_54 : decode cX4_tenthsToBalk 54 = .ok (.getfield 34, 3) := by decide +kernel
theorem dX4_tenthsToBalk_57 : decode cX4_tenthsToBalk 57 = .ok (.getfield 117, 3) := by decide +kernel
theorem dX4_tenthsToBalk_60 : decode cX4_tenthsToBalk 60 = .ok (.iload_n 1, 1) := by decide +kernel
theorem dX4_tenthsToBalk_61 : decode cX4_tenthsToBalk 61 = .ok (.iaload, 1) := by decide +kernel
theorem dX4_tenthsToBalk_62 : decode cX4_tenthsToBalk 62 = .ok (.iconst 0, 1) := by decide +kernel
theorem dX4_tenthsToBalk_63 : decode cX4_tenthsToBalk 63 = .ok (.invokevirtual 230, 3) := by decide +kernel
theorem dX4_tenthsToBalk_66 : decode cX4_tenthsToBalk 66 = .ok (.iand, 1) := by decide +kernel
theorem dX4_tenthsToBalk_67 : decode cX4_tenthsToBalk 67 = .ok (.ifCond .eq 7, 3) := by decide +kernel
theorem dX4_tenthsToBalk_70 : decode cX4_tenthsToBalk 70 = .ok (.iconst 1, 1) := by decide +kernel
theorem dX4_tenthsToBalk_71 : decode cX4_tenthsToBalk 71 = .ok (.goto 4, 3) := by decide +kernel
theorem dX4_tenthsToBalk_74 : decode cX4_tenthsToBalk 74 = .ok (.iconst 0, 1) := by decide +kernel
theorem dX4_tenthsToBalk_75 : decode cX4_tenthsToBalk 75 = .ok (.istore 6, 2) := by decide +kernel
theorem dX4_tenthsToBalk_77 : decode cX4_tenthsToBalk 77 = .ok (.iload 5, 2) := by decide +kernel
theorem dX4_tenthsToBalk_79 : decode cX4_tenthsToBalk 79 = .ok (.ifCond .eq 10, 3) := by decide +kernel
theorem dX4_tenthsToBalk_82 : decode cX4_tenthsToBalk 82 = .ok (.bipush 10, 2) := by decide +kernel
theorem dX4_tenthsToBalk_84 : decode cX4_tenthsToBalk 84 = .ok (.iload_n 3, 1) := by decide +kernel
theorem dX4_tenthsToBalk_85 : decode cX4_tenthsToBalk 85 = .ok (.isub, 1) := by decide +kernel
theorem dX4_tenthsToBalk_86 : decode cX4_tenthsToBalk 86 = .ok (.goto 4, 3) := by decide +kernel
theorem dX4_tenthsToBalk_89 : decode cX4_tenthsToBalk 89 = .ok (.iconst 0, 1) := by decide +kernel
theorem dX4_tenthsToBalk_90 : decode cX4_tenthsToBalk 90 = .ok (.iload 6, 2) := by decide +kernel
theorem dX4_tenthsToBalk_92 : decode cX4_tenthsToBalk 92 = .ok (.ifCond .eq 7, 3) := by decide +kernel
theorem dX4_tenthsToBalk_95 : decode cX4_tenthsToBalk 95 = .ok (.iload_n 3, 1) := by decide +kernel
theorem dX4_tenthsToBalk_96 : decode cX4_tenthsToBalk 96 = .ok (.goto 4, 3) := by decide +kernel
theorem dX4_tenthsToBalk_99 : decode cX4_tenthsToBalk 99 = .ok (.iconst 0, 1) := by decide +kernel
theorem dX4_tenthsToBalk_100 : decode cX4_tenthsToBalk 100 = .ok (.iadd, 1) := by decide +kernel
theorem dX4_tenthsToBalk_101 : decode cX4_tenthsToBalk 101 = .ok (.ireturn, 1) := by decide +kernel

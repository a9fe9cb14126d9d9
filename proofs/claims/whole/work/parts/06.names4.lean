theorem dX4_tallyMule_0 : decode cX4_tallyMule 0 = .ok (.aload_n 0, 1) := by decide +kernel
theorem dX4_tallyMule_1 : decode cX4_tallyMule 1 = .ok (.getfield 65, 3) := by decide +kernel
theorem dX4_tallyMule_4 : decode cX4_tallyMule 4 = .ok (.arraylength, 1) := by decide +kernel
theorem dX4_tallyMule_5 : decode cX4_tallyMule 5 = .ok (.iconst 1, 1) := by decide +kernel
theorem dX4_tallyMule_6 : decode cX4_tallyMule 6 = .ok (.isub, 1) := by decide +kernel
theorem dX4_tallyMule_7 : decode cX4_tallyMule 7 = .ok (.istore_n 2, 1) := by decide +kernel
theorem dX4_tallyMule_8 : decode cX4_tallyMule 8 = .ok (.iload_n 2, 1) := by decide +kernel
theorem dX4_tallyMule_9 : decode cX4_tallyMule 9 = .ok (.ifCond .le 37, 3) := by decide +kernel
theorem dX4_tallyMule_12 : decode cX4_tallyMule 12 = .ok (.aload_n 0, 1) := by decide +kernel
theorem dX4_tallyMule_13 : decode cX4_tallyMule 13 = .ok (.getfield 65, 3) := by decide +kernel
theorem dX4_tallyMule_16 : decode cX4_tallyMule 16 = .ok (.iload_n 2, 1) := by decide +kernel
theorem dX4_tallyMule_17 : decode cX4_tallyMule 17 = .ok (.aload_n 0, 1) := by decide +kernel
theorem dX4_tallyMule_18 : decode cX4_tallyMule 18 = .ok (.getfield 65, 3) := by decide +kernel
theorem dX4_tallyMule_21 : decode cX4_tallyMule 21 = .ok (.iload_n 2, 1) := by decide +kernel
theorem dX4_tallyMule_22 : decode cX4_tallyMule 22 = .ok (.iaload, 1) := by decide +kernel
theorem dX4_tallyMule_23 : decode cX4_tallyMule 23 = .ok (.bipush 10, 2) := by decide +kernel
theorem dX4_tallyMule_25 : decode cX4_tallyMule 25 = .ok (.iload_n 1, 1) := by decide +kernel
theorem dX4_tallyMule_26 : decode cX4_tallyMule 26 = .ok (.isub, 1) := by decide +kernel
theorem dX4_tallyMule_27 : decode cX4_tallyMule 27 = .ok (.imul, 1) := by decide +kernel
theorem dX4_tallyMule_28 : decode cX4_tallyMule 28 = .ok (.aload_n 0, 1) := by decide +kernel
theorem dX4_tallyMule_29 : decode cX4_tallyMule 29 = .ok (.getfield 65, 3) := by decide +kernel
theorem dX4_tallyMule_32 : decode cX4_tallyMule 32 = .ok (.iload_n 2, 1) := by decide +kernel
theorem dX4_tallyMule_33 : decode cX4_tallyMule 33 = .ok (.iconst 1, 1) := by decide +kernel
theorem dX4_tallyMule_34 : decode cX4_tallyMule 34 = .ok (.isub, 1) := by decide +kernel
theorem dX4_tallyMule_35 : decode cX4_tallyMule 35 = .ok (.iaload, 1) := by decide +kernel
theorem dX4_tallyMule_36 : decode cX4_tallyMule 36 = .ok (.iload_n 1, 1) := by decide +kernel
theorem dX4_tallyMule_37 : decode cX4_tallyMule 37 = .ok (.imul, 1) := by decide +kernel
theorem dX4_tallyMule_38 : decode cX4_tallyMule 38 = .ok (.iadd, 1) := by decide +kernel
theorem dX4_tallyMule_39 : decode cX4_tallyMule 39 = .ok (.iastore, 1) := by decide +kernel
theorem dX4_tallyMule_40 : decode cX4_tallyMule 40 = .ok (.iinc 2 (-1), 3) := by decide +kernel
theorem dX4_tallyMule_43 : decode cX4_tallyMule 43 = .ok (.goto (-35), 3) := by decide +kernel
theorem dX4_tallyMule_46 : decode cX4_tallyMule 46 = .ok (.aload_n 0, 1) := by decide +kernel
theorem dX4_tallyMule_47 : decode cX4_tallyMule 47 = .ok (.getfield 65, 3) := by decide +kernel
theorem dX4_tallyMule_50 : decode cX4_tallyMule 50 = .ok (.iconst 0, 1) := by decide +kernel
theorem dX4_tallyMule_51 : decode cX4_tallyMule 51 = .ok (.dup2, 1) := by decide +kernel
theorem dX4_tallyMule_52 : decode cX4_tallyMule 52 = .ok (.iaload, 1) := by decide +kernel
theorem dX4_tallyMule_53 : decode cX4_tallyMule 53 = .ok (.bipush 10, 2) := by decide +kernel
theorem dX4_tallyMule_55 : decode cX4_tallyMule 55 = .ok (.iload_n 1, 1) := by decide +kernel
theorem dX4_tallyMule_56 : decode cX4_tallyMule 56 = .ok (.isub, 1) := by decide +kernel
theorem dX4_tallyMule_57 : decode cX4_tallyMule 57 = .ok (.imul, 1) := by decide +kernel
theorem dX4_tallyMule_58 : decode cX4_tallyMule 58 = .ok (.iastore, 1) := by decide +kernel
theorem dX4_tallyMule_59 : decode cX4_tallyMule 59 = .ok (.return_, 1) := by decide +kernel
theorem dX4_fractionPart_0 : decode cX4_fractionPart 0 = .ok (.iload_n 1, 1) := by decide +kernel
theorem dX4_fractionPart_1 : decode cX4_fractionPart 1 = .ok (.istore_n 3, 1) := by decide +kernel
theorem dX4_fractionPart_2 : decode cX4_fractionPart 2 = .ok (.iload_n 0, 1) := by decide +kernel
theorem dX4_fractionPart_3 : decode cX4_fractionPart 3 = .ok (.istore 4, 2) := by decide +kernel
theorem dX4_fractionPart_5 : decode cX4_fractionPart 5 = .ok (.iconst 0, 1) := by decide +kernel
theorem dX4_fractionPart_6 : decode cX4_fractionPart 6 = .ok (.istore 5, 2) := by decide +kernel
theorem dX4_fractionPart_8 : decode cX4_fractionPart 8 = .ok (.iload 5, 2) := by decide +kernel
theorem dX4_fractionPart_10 : decode cX4_fractionPart 10 = .ok (.bipush 100, 2) := by decide +kernel
theorem dX4_fractionPart_12 : decode cX4_fractionPart 12 = .ok (.if_icmp .ge 27, 3) := by decide +kernel
theorem dX4_fractionPart_15 : decode cX4_fractionPart 15 = .ok (.iload 4, 2) := by decide +kernel
theorem dX4_fractionPart_17 : decode cX4_fractionPart 17 = .ok (.ifCond .eq 22, 3) := by decide +kernel
theorem dX4_fractionPart_20 : decode cX4_fractionPart 20 = .ok (.iload_n 3, 1) := by decide +kernel
theorem dX4_fractionPart_21 : decode cX4_fractionPart 21 = .ok (.iload 4, 2) := by decide +kernel
theorem dX4_fractionPart_23 : decode cX4_fractionPart 23 = .ok (.irem, 1) := by decide +kernel
theorem dX4_fractionPart_24 : decode cX4_fractionPart 24 = .ok (.istore 6, 2) := by decide +kernel
theorem dX4_fractionPart_26 : decode cX4_fractionPart 26 = .ok (.iload 4, 2) := by decide +kernel
theorem dX4_fractionPart_28 : decode cX4_fractionPart 28 = .ok (.istore_n 3, 1) := by decide +kernel
theorem dX4_fractionPart_29 : decode cX4_fractionPart 29 = .ok (.iload 6, 2) := by decide +kernel
theorem dX4_fractionPart_31 : decode cX4_fractionPart 31 = .ok (.istore 4, 2) := by decide +kernel
theorem dX4_fractionPart_33 : decode cX4_fractionPart 33 = .ok (.iinc 5 1, 3) := by decide +kernel
theorem dX4_fractionPart_36 : decode cX4_fractionPart 36 = .ok (.goto (-28), 3) := by decide +kernel
theorem dX4_fractionPart_39 : decode cX4_fractionPart 39 = .ok (.iload_n 3, 1) := by decide +kernel
theorem dX4_fractionPart_40 : decode cX4_fractionPart 40 = .ok (.ifCond .ne 5, 3) := by decide +kernel
theorem dX4_fractionPart_43 : decode cX4_fractionPart 43 = .ok (.iconst 0, 1) := by decide +kernel
theorem dX4_fractionPart_44 : decode cX4_fractionPart 44 = .ok (.ireturn, 1) := by decide +kernel
theorem dX4_fractionPart_45 : decode cX4_fractionPart 45 = .ok (.iload_n 2, 1) := by decide +kernel
theorem dX4_fractionPart_46 : decode cX4_fractionPart 46 = .ok (.ifCond .eq 9, 3) := by decide +kernel
theorem dX4_fractionPart_49 : decode cX4_fractionPart 49 = .ok (.iload_n 0, 1) := by decide +kernel
theorem dX4_fractionPart_50 : decode cX4_fractionPart 50 = .ok (.iload_n 3, 1) := by decide +kernel
theorem dX4_fractionPart_51 : decode cX4_fractionPart 51 = .ok (.idiv, 1) := by decide +kernel
theorem dX4_fractionPart_52 : decode cX4_fractionPart 52 = .ok (.goto 6, 3) := by decide +kernel
theorem dX4_fractionPart_55 : decode cX4_fractionPart 55 = .ok (.iload_n 1, 1) := by decide +kernel
theorem dX4_fractionPart_56 : decode cX4_fractionPart 56 = .ok (.iload_n 3, 1) := by decide +kernel
theorem dX4_fractionPart_57 : decode cX4_fractionPart 57 = .ok (.idiv, 1) := by decide +kernel
theorem dX4_fractionPart_58 : decode cX4_fractionPart 58 = .ok (.ireturn, 1) := by decide +kernel
theorem dX5_init_0 : decode cX5_init 0 = .ok (.aload_n 0, 1) := by decide +kernel
theorem dX5_init_1 : decode cX5_init 1 = .ok (.invokespecial 1, 3) := by decide +kernel
theorem dX5_init_4 : decode cX5_init 4 = .ok (.aload_n 0, 1) := by decide +kernel
theorem dX5_init_5 : decode cX5_init 5 = .ok (.bipush 48, 2) := by decide +kernel
theorem dX5_init_7 : decode cX5_init 7 = .ok (.newarray .int, 2) := by decide +kernel
theorem dX5_init_9 : decode cX5_init 9 = .ok (.putfield 7, 3) := by decide +kernel
theorem dX5_init_12 : decode cX5_init 12 = .ok (.aload_n 0, 1) := by decide +kernel
theorem dX5_init_13 : decode cX5_init 13 = .ok (.iconst 5, 1) := by decide +kernel
theorem dX5_init_14 : decode cX5_init 14 = .ok (.newarray .int, 2) := by decide +kernel
theorem dX5_init_16 : decode cX5_init 16 = .ok (.putfield 13, 3) := by decide +kernel
theorem dX5_init_19 : decode cX5_init 19 = .ok (.aload_n 0, 1) := by decide +kernel
theorem dX5_init_20 : decode cX5_init 20 = .ok (.iconst 5, 1) := by decide +kernel
theorem dX5_init_21 : decode cX5_init 21 = .ok (.newarray .int, 2) := by decide +kernel
theorem dX5_init_23 : decode cX5_init 23 = .ok (.putfield 16, 3) := by decide +kernel
theorem dX5_init_26 : decode cX5_init 26 = .ok (.aload_n 0, 1) := by decide +kernel
theorem dX5_init_27 : decode cX5_init 27 = .ok (.iconst 5, 1) := by decide +kernel
theorem dX5_init_28 : decode cX5_init 28 = .ok (.newarray .int, 2) := by decide +kernel
theorem dX5_init_30 : decode cX5_init 30 = .ok (.putfield 19, 3) := by decide +kernel
theorem dX5_init_33 : decode cX5_init 33 = .ok (.aload_n 0, 1) := by decide +kernel
theorem dX5_init_34 : decode cX5_init 34 = .ok (.iconst 5, 1) := by decide +kernel
theorem dX5_init_35 : decode cX5_init 35 = .ok (.newarray .int, 2) := by decide +kernel
theorem dX5_init_37 : decode cX5_init 37 = .ok (.putfield 22, 3) := by decide +kernel
theorem dX5_init_40 : decode cX5_init 40 = .ok (.aload_n 0, 1) := by decide +kernel
theorem dX5_init_41 : decode cX5_init 41 = .ok (.bipush 15, 2) := by decide +kernel
theorem dX5_init_43 : decode cX5_init 43 = .ok (.newarray .int, 2) := by decide +kernel
theorem dX5_init_45 : decode cX5_init 45 = .ok (.putfield 25, 3) := by decide +kernel
theorem dX5_init_48 : decode cX5_init 48 = .ok (.aload_n 0, 1) := by decide +kernel
theorem dX5_init_49 : decode cX5_init 49 = .ok (.bipush 15, 2) := by decide +kernel
theorem dX5_init_51 : decode cX5_init 51 = .ok (.newarray .int, 2) := by decide +kernel
theorem dX5_init_53 : decode cX5_init 53 = .ok (.putfield 28, 3) := by decide +kernel
theorem dX5_init_56 : decode cX5_init 56 = .ok (.aload_n 0, 1) := by decide +kernel
theorem dX5_init_57 : decode cX5_init 57 = .ok (.bipush 17, 2) := by decide +kernel
theorem dX5_init_59 : decode cX5_init 59 = .ok (.newarray .int, 2) := by decide +kernel
theorem dX5_init_61 : decode cX5_init 61 = .ok (.putfield 31, 3) := by decide +kernel
theorem dX5_init_64 : decode cX5_init 64 = .ok (.aload_n 0, 1) := by decide +kernel
theorem dX5_init_65 : decode cX5_init 65 = .ok (.bipush 17, 2) := by decide +kernel
theorem dX5_init_67 : decode cX5_init 67 = .ok (.newarray .int, 2) := by decide +kernel
theorem dX5_init_69 : decode cX5_init 69 = .ok (.putfield 34, 3) := by decide +kernel
theorem dX5_init_72 : decode cX5_init 72 = .ok (.aload_n 0, 1) := by decide +kernel
theorem dX5_init_73 : decode cX5_init 73 = .ok (.sipush 238, 3) := by decide +kernel
theorem dX5_init_76 : decode cX5_init 76 = .ok (.newarray .int, 2) := by decide +kernel
theorem dX5_init_78 : decode cX5_init 78 = .ok (.putfield 37, 3) := by decide +kernel
theorem dX5_init_81 : decode cX5_init 81 = .ok (.aload_n 0, 1) := by decide +kernel
theorem dX5_init_82 : decode cX5_init 82 = .ok (.bipush 34, 2) := by decide +kernel
theorem dX5_init_84 : decode cX5_init 84 = .ok (.newarray .int, 2) := by decide +kernel
theorem dX5_init_86 : decode cX5_init 86 = .ok (.putfield 40, 3) := by decide +kernel
theorem dX5_init_89 : decode cX5_init 89 = .ok (.aload_n 0, 1) := by decide +kernel
theorem dX5_init_90 : decode cX5_init 90 = .ok (.iconst 2, 1) := by decide +kernel
theorem dX5_init_91 : decode cX5_init 91 = .ok (.newarray .boolean, 2) := by decide +kernel
theorem dX5_init_93 : decode cX5_init 93 = .ok (.putfield 43, 3) := by decide +kernel
theorem dX5_init_96 : decode cX5_init 96 = .ok (.aload_n 0, 1) := by decide +kernel
theorem dX5_init_97 : decode cX5_init 97 = .ok (.bipush 6, 2) := by decide +kernel
theorem dX5_init_99 : decode cX5_init 99 = .ok (.newarray .int, 2) := by decide +kernel
theorem dX5_init_101 : decode cX5_init 101 = .ok (.putfield 47, 3) := by decide +kernel
theorem dX5_init_104 : decode cX5_init 104 = .ok (.aload_n 0, 1) := by decide +kernel
theorem dX5_init_105 : decode cX5_init 105 = .ok (.bipush 6, 2) := by decide +kernel
theorem dX5_init_107 : decode cX5_init 107 = .ok (.newarray .int, 2) := by decide +kernel
theorem dX5_init_109 : decode cX5_init 109 = .ok (.putfield 50, 3) := by decide +kernel
theorem dX5_init_112 : decode cX5_init 112 = .ok (.aload_n 0, 1) := by decide +kernel
theorem dX5_init_113 : decode cX5_init 113 = .ok (.bipush 6, 2) := by decide +kernel
theorem dX5_init_115 : decode cX5_init 115 = .ok (.newarray .int, 2) := by decide +kernel
theorem dX5_init_117 : decode cX5_init 117 = .ok (.putfield 53, 3) := by decide +kernel
theorem dX5_init_120 : decode cX5_init 120 = .ok (.aload_n 0, 1) := by decide +kernel
theorem dX5_init_121 : decode cX5_init 121 = .ok (.bipush 6, 2) := by decide +kernel
theorem dX5_init_123 : decode cX5_init 123 = .ok (.newarray .int, 2) := by decide +kernel
theorem dX5_init_125 : decode cX5_init 125 = .ok (.putfield 56, 3) := by decide +kernel
theorem dX5_init_128 : decode cX5_init 128 = .ok (.aload_n 0, 1) := by decide +kernel
theorem dX5_init_129 : decode cX5_init 129 = .ok (.bipush 6, 2) := by decide +kernel
theorem dX5_init_131 : decode cX5_init 131 = .ok (.newarray .int, 2) := by decide +kernel
theorem dX5_init_133 : decode cX5_init 133 = .ok (.putfield 59, 3) := by decide +kernel
theorem dX5_init_136 : decode cX5_init 136 = .ok (.aload_n 0, 1) := by decide +kernel
theorem dX5_init_137 : decode cX5_init 137 = .ok (.bipush 10, 2) := by decide +kernel
theorem dX5_init_139 : decode cX5_init 139 = .ok (.newarray .int, 2) := by decide +kernel
theorem dX5_init_141 : decode cX5_init 141 = .ok (.putfield 62, 3) := by decide +kernel
theorem dX5_init_144 : decode cX5_init 144 = .ok (.aload_n 0, 1) := by decide +kernel
theorem dX5_init_145 : decode cX5_init 145 = .ok (.bipush 32, 2) := by decide +kernel
theorem dX5_init_147 : decode cX5_init 147 = .ok (.newarray .int, 2) := by decide +kernel
theorem dX5_init_149 : decode cX5_init 149 = .ok (.putfield 65, 3) := by decide +kernel
theorem dX5_init_152 : decode cX5_init 152 = .ok (.return_, 1) := by decide +kernel
theorem dX5_in_0 : decode cX5_in 0 = .ok (.lload_n 0, 1) := by decide +kernel
theorem dX5_in_1 : decode cX5_in 1 = .ok (.lload_n 2, 1) := by decide +kernel
theorem dX5_in_2 : decode cX5_in 2 = .ok (.lcmp, 1) := by decide +kernel
theorem dX5_in_3 : decode cX5_in 3 = .ok (.ifCond .lt 14, 3) := by decide +kernel
theorem dX5_in_6 : decode cX5_in 6 = .ok (.lload_n 0, 1) := by decide +kernel
theorem dX5_in_7 : decode cX5_in 7 = .ok (.lload 4, 2) := by decide +kernel
theorem dX5_in_9 : decode cX5_in 9 = .ok (.lcmp, 1) := by decide +kernel
theorem dX5_in_10 : decode cX5_in 10 = .ok (.ifCond .gt 7, 3) := by decide +kernel
theorem dX5_in_13 : decode cX5_in 13 = .ok (.iconst 1, 1) := by decide +kernel
theorem dX5_in_14 : decode cX5_in 14 = .ok (.goto 4, 3) := by decide +kernel
theorem dX5_in_17 : decode cX5_in 17 = .ok (.iconst 0, 1) := by decide +kernel
theorem dX5_in_18 : decode cX5_in 18 = .ok (.ireturn, 1) := by decide +kernel
theorem dX5_has_0 : decode cX5_has 0 = .ok (.iload_n 0, 1) := by decide +kernel
theorem dX5_has_1 : decode cX5_has 1 = .ok (.iload_n 1, 1) := by decide +kernel
theorem dX5_has_2 : decode cX5_has 2 = .ok (.ishr, 1) := by decide +kernel
theorem dX5_has_3 : decode cX5_has 3 = .ok (.iconst 1, 1) := by decide +kernel
theorem dX5_has_4 : decode cX5_has 4 = .ok (.iand, 1) := by decide +kernel
theorem dX5_has_5 : decode cX5_has 5 = .ok (.iconst 1, 1) := by decide +kernel
theorem dX5_has_6 : decode cX5_has 6 = .ok (.if_icmp .ne 7, 3) := by decide +kernel
theorem dX5_has_9 : decode cX5_has 9 = .ok (.iconst 1, 1) := by decide +kernel
theorem dX5_has_10 : decode cX5_has 10 = .ok (.goto 4, 3) := by decide +kernel
theorem dX5_has_13 : decode cX5_has 13 = .ok (.iconst 0, 1) := by decide +kernel
theorem dX5_has_14 : decode cX5_has 14 = .ok (.ireturn, 1) := by decide +kernel
theorem dX5_many_0 : decode cX5_many 0 = .ok (.iconst 0, 1) := by decide +kernel
theorem dX5_many_1 : decode cX5_many 1 = .ok (.istore_n 1, 1) := by decide +kernel
theorem dX5_many_2 : decode cX5_many 2 = .ok (.iconst 0, 1) := by decide +kernel
theorem dX5_many_3 : decode cX5_many 3 = .ok (.istore_n 2, 1) := by decide +kernel
theorem dX5_many_4 : decode cX5_many 4 = .ok (.iload_n 2, 1) := by decide +kernel
theorem dX5_many_5 : decode cX5_many 5 = .ok (.bipush 10, 2) := by decide +kernel
theorem dX5_many_7 : decode cX5_many 7 = .ok (.if_icmp .ge 17, 3) := by decide +kernel
theorem dX5_many_10 : decode cX5_many 10 = .ok (.iload_n 1, 1) := by decide +kernel
theorem dX5_many_11 : decode cX5_many 11 = .ok (.iload_n 0, 1) := by decide +kernel
theorem dX5_many_12 : decode cX5_many 12 = .ok (.iload_n 2, 1) := by decide +kernel
theorem dX5_many_13 : decode cX5_many 13 = .ok (.ishr, 1) := by decide +kernel
theorem dX5_many_14 : decode cX5_many 14 = .ok (.iconst 1, 1) := by decide +kernel
theorem dX5_many_15 : decode cX5_many 15 = .ok (.iand, 1) := by decide +kernel
theorem dX5_many_16 : decode cX5_many 16 = .ok (.iadd, 1) := by decide +kernel
theorem dX5_many_17 : decode cX5_many 17 = .ok (.istore_n 1, 1) := by decide +kernel
theorem dX5_many_18 : decode cX5_many 18 = .ok (.iinc 2 1, 3) := by decide +kernel
theorem dX5_many_21 : decode cX5_many 21 = .ok (.goto (-17), 3) := by decide +kernel
theorem dX5_many_24 : decode cX5_many 24 = .ok (.iload_n 1, 1) := by decide +kernel
theorem dX5_many_25 : decode cX5_many 25 = .ok (.ireturn, 1) := by decide +kernel
set_option maxRecDepth 20000 in
theorem ggX5_noMule_X5_in : GoodIn wsX5_noMule wsX5_in := goodIn_r _ [5] (by decide +kernel) (by decide +kernel)
set_option maxRecDepth 20000 in
theorem gX5_noMule_X5_in : GoodIn wsX5_noMule (va_wsS RX5 75 yX5_in wsX5_in) := goodIn_app (goodIn_of _ (by decide +kernel)) ggX5_noMule_X5_in
theorem dX5_noMule_0 : decode cX5_noMule 0 = .ok (.iload_n 1, 1) := by decide +kernel
theorem dX5_noMule_1 : decode cX5_noMule 1 = .ok (.i2l, 1) := by decide +kernel
theorem dX5_noMule_2 : decode cX5_noMule 2 = .ok (.lconst 0, 1) := by decide +kernel
theorem dX5_noMule_3 : decode cX5_noMule 3 = .ok (.aload_n 0, 1) := by decide +kernel
theorem dX5_noMule_4 : decode cX5_noMule 4 = .ok (.getfield 72, 3) := by decide +kernel
theorem dX5_noMule_7 : decode cX5_noMule 7 = .ok (.iconst 1, 1) := by decide +kernel
theorem dX5_noMule_8 : decode cX5_noMule 8 = .ok (.isub, 1) := by decide +kernel
theorem dX5_noMule_9 : decode cX5_noMule 9 = .ok (.i2l, 1) := by decide +kernel
theorem dX5_noMule_10 : decode cX5_noMule 10 = .ok (.invokestatic 75, 3) := by decide +kernel
theorem dX5_noMule_13 : decode cX5_noMule 13 = .ok (.ifCond .ne 7, 3) := by decide +kernel
theorem dX5_noMule_16 : decode cX5_noMule 16 = .ok (.iconst 1, 1) := by decide +kernel
theorem dX5_noMule_17 : decode cX5_noMule 17 = .ok (.goto 4, 3) := by decide +kernel
theorem dX5_noMule_20 : decode cX5_noMule 20 = .ok (.iconst 0, 1) := by decide +kernel
theorem dX5_noMule_21 : decode cX5_noMule 21 = .ok (.ireturn, 1) := by decide +kernel
set_option maxRecDepth 20000 in
theorem ggX5_noArticle_X5_in : GoodIn wsX5_noArticle wsX5_in := goodIn_r _ [5] (by decide +kernel) (by decide +kernel)
set_option maxRecDepth 20000 in
theorem gX5_noArticle_X5_in : GoodIn wsX5_noArticle (va_wsS RX5 75 yX5_in wsX5_in) := goodIn_app (goodIn_of _ (by decide +kernel)) ggX5_noArticle_X5_in
theorem dX5_noArticle_0 : decode cX5_noArticle 0 = .ok (.iload_n 1, 1) := by decide +kernel
theorem dX5_noArticle_1 : decode cX5_noArticle 1 = .ok (.i2l, 1) := by decide +kernel
theorem dX5_noArticle_2 : decode cX5_noArticle 2 = .ok (.lconst 0, 1) := by decide +kernel
theorem dX5_noArticle_3 : decode cX5_noArticle 3 = .ok (.aload_n 0, 1) := by decide +kernel
theorem dX5_noArticle_4 : decode cX5_noArticle 4 = .ok (.getfield 79, 3) := by decide +kernel
theorem dX5_noArticle_7 : decode cX5_noArticle 7 = .ok (.iconst 1, 1) := by decide +kernel
theorem dX5_noArticle_8 : decode cX5_noArticle 8 = .ok (.isub, 1) := by decide +kernel
theorem dX5_noArticle_9 : decode cX5_noArticle 9 = .ok (.i2l, 1) := by decide +kernel
theorem dX5_noArticle_10 : decode cX5_noArticle 10 = .ok (.invokestatic 75, 3) := by decide +kernel
theorem dX5_noArticle_13 : decode cX5_noArticle 13 = .ok (.ifCond .ne 7, 3) := by decide +kernel
theorem dX5_noArticle_16 : decode cX5_noArticle 16 = .ok (.iconst 1, 1) := by decide +kernel
theorem dX5_noArticle_17 : decode cX5_noArticle 17 = .ok (.goto 4, 3) := by decide +kernel
theorem dX5_noArticle_20 : decode cX5_noArticle 20 = .ok (.iconst 0, 1) := by decide +kernel
theorem dX5_noArticle_21 : decode cX5_noArticle 21 = .ok (.ireturn, 1) := by decide +kernel
set_option maxRecDepth 20000 in
theorem ggX5_write_X5_in : GoodIn wsX5_write wsX5_in := goodIn_r _ [8] (by decide +kernel) (by decide +kernel)
set_option maxRecDepth 20000 in
theorem gX5_write_X5_in : GoodIn wsX5_write (va_wsS RX5 75 yX5_in wsX5_in) := goodIn_app (goodIn_of _ (by decide +kernel)) ggX5_write_X5_in
theorem dX5_write_0 : decode cX5_write 0 = .ok (.aload_n 0, 1) := by decide +kernel
theorem dX5_write_1 : decode cX5_write 1 = .ok (.iconst 0, 1) := by decide +kernel
theorem dX5_write_2 : decode cX5_write 2 = .ok (.putfield 68, 3) := by decide +kernel
theorem dX5_write_5 : decode cX5_write 5 = .ok (.iload_n 1, 1) := by decide +kernel
theorem dX5_write_6 : decode cX5_write 6 = .ok (.i2l, 1) := by decide +kernel
theorem dX5_write_7 : decode cX5_write 7 = .ok (.lconst 0, 1) := by decide +kernel
theorem dX5_write_8 : decode cX5_write 8 = .ok (.ldc2_w 82, 3) := by decide +kernel
theorem dX5_write_11 : decode cX5_write 11 = .ok (.invokestatic 75, 3) := by decide +kernel
theorem dX5_write_14 : decode cX5_write 14 = .ok (.ifCond .ne 6, 3) := by decide +kernel
theorem dX5_write_17 : decode cX5_write 17 = .ok (.bipush (-2), 2) := by decide +kernel
theorem dX5_write_19 : decode cX5_write 19 = .ok (.ireturn, 1) := by decide +kernel
theorem dX5_write_20 : decode cX5_write 20 = .ok (.aload_n 0, 1) := by decide +kernel
theorem dX5_write_21 : decode cX5_write 21 = .ok (.getfield 84, 3) := by decide +kernel
theorem dX5_write_24 : decode cX5_write 24 = .ok (.bipush 48, 2) := by decide +kernel
theorem dX5_write_26 : decode cX5_write 26 = .ok (.if_icmp .ne 6, 3) := by decide +kernel
theorem dX5_write_29 : decode cX5_write 29 = .ok (.bipush (-4), 2) := by decide +kernel
theorem dX5_write_31 : decode cX5_write 31 = .ok (.ireturn, 1) := by decide +kernel
theorem dX5_write_32 : decode cX5_write 32 = .ok (.aload_n 0, 1) := by decide +kernel
theorem dX5_write_33 : decode cX5_write 33 = .ok (.getfield 7, 3) := by decide +kernel
theorem dX5_write_36 : decode cX5_write 36 = .ok (.aload_n 0, 1) := by decide +kernel
theorem dX5_write_37 : decode cX5_write 37 = .ok (.getfield 84, 3) := by decide +kernel
theorem dX5_write_40 : decode cX5_write 40 = .ok (.iload_n 1, 1) := by decide +kernel
theorem dX5_write_41 : decode cX5_write 41 = .ok (.iastore, 1) := by decide +kernel
theorem dX5_write_42 : decode cX5_write 42 = .ok (.aload_n 0, 1) := by decide +kernel
theorem dX5_write_43 : decode cX5_write 43 = .ok (.dup, 1) := by decide +kernel
theorem dX5_write_44 : decode cX5_write 44 = .ok (.getfield 84, 3) := by decide +kernel
theorem dX5_write_47 : decode cX5_write 47 = .ok (.iconst 1, 1) := by decide +kernel
theorem dX5_write_48 : decode cX5_write 48 = .ok (.iadd, 1) := by decide +kernel
theorem dX5_write_49 : decode cX5_write 49 = .ok (.putfield 84, 3) := by decide +kernel
theorem dX5_write_52 : decode cX5_write 52 = .ok (.aload_n 0, 1) := by decide +kernel
theorem dX5_write_53 : decode cX5_write 53 = .ok (.getfield 84, 3) := by decide +kernel
theorem dX5_write_56 : decode cX5_write 56 = .ok (.ireturn, 1) := by decide +kernel
theorem dX5_wipe_0 : decode cX5_wipe 0 = .ok (.aload_n 0, 1) := by decide +kernel
theorem dX5_wipe_1 : decode cX5_wipe 1 = .ok (.iconst 0, 1) := by decide +kernel
theorem dX5_wipe_2 : decode cX5_wipe 2 = .ok (.putfield 68, 3) := by decide +kernel
theorem dX5_wipe_5 : decode cX5_wipe 5 = .ok (.aload_n 0, 1) := by decide +kernel
theorem dX5_wipe_6 : decode cX5_wipe 6 = .ok (.getfield 84, 3) := by decide +kernel
theorem dX5_wipe_9 : decode cX5_wipe 9 = .ok (.istore_n 1, 1) := by decide +kernel
theorem dX5_wipe_10 : decode cX5_wipe 10 = .ok (.aload_n 0, 1) := by decide +kernel
theorem dX5_wipe_11 : decode cX5_wipe 11 = .ok (.iconst 0, 1) := by decide +kernel
theorem dX5_wipe_12 : decode cX5_wipe 12 = .ok (.putfield 84, 3) := by decide +kernel
theorem dX5_wipe_15 : decode cX5_wipe 15 = .ok (.iload_n 1, 1) := by decide +kernel
theorem dX5_wipe_16 : decode cX5_wipe 16 = .ok (.ireturn, 1) := by decide +kernel
set_option maxRecDepth 20000 in
theorem ggX5_figure_X5_in : GoodIn wsX5_figure wsX5_in := goodIn_r _ [7] (by decide +kernel) (by decide +kernel)
set_option maxRecDepth 20000 in
theorem gX5_figure_X5_in : GoodIn wsX5_figure (va_wsS RX5 75 yX5_in wsX5_in) := goodIn_app (goodIn_of _ (by decide +kernel)) ggX5_figure_X5_in
theorem dX5_figure_0 : decode cX5_figure 0 = .ok (.aload_n 0, 1) := by decide +kernel
theorem dX5_figure_1 : decode cX5_figure 1 = .ok (.getfield 87, 3) := by decide +kernel
theorem dX5_figure_4 : decode cX5_figure 4 = .ok (.aload_n 0, 1) := by decide +kernel
theorem dX5_figure_5 : decode cX5_figure 5 = .ok (.getfield 84, 3) := by decide +kernel
theorem dX5_figure_8 : decode cX5_figure 8 = .ok (.if_icmp .eq 25, 3) := by decide +kernel
theorem dX5_figure_11 : decode cX5_figure 11 = .ok (.aload_n 0, 1) := by decide +kernel
theorem dX5_figure_12 : decode cX5_figure 12 = .ok (.getfield 7, 3) := by decide +kernel
theorem dX5_figure_15 : decode cX5_figure 15 = .ok (.aload_n 0, 1) := by decide +kernel
theorem dX5_figure_16 : decode cX5_figure 16 = .ok (.getfield 87, 3) := by decide +kernel
theorem dX5_figure_19 : decode cX5_figure 19 = .ok (.iaload, 1) := by decide +kernel
theorem dX5_figure_20 : decode cX5_figure 20 = .ok (.bipush 48, 2) := by decide +kernel
theorem dX5_figure_22 : decode cX5_figure 22 = .ok (.isub, 1) := by decide +kernel
theorem dX5_figure_23 : decode cX5_figure 23 = .ok (.i2l, 1) := by decide +kernel
theorem dX5_figure_24 : decode cX5_figure 24 = .ok (.lconst 0, 1) := by decide +kernel
theorem dX5_figure_25 : decode cX5_figure 25 = .ok (.iload_n 1, 1) := by decide +kernel
theorem dX5_figure_26 : decode cX5_figure 26 = .ok (.i2l, 1) := by decide +kernel
theorem dX5_figure_27 : decode cX5_figure 27 = .ok (.invokestatic 75, 3) := by decide +kernel
theorem dX5_figure_30 : decode cX5_figure 30 = .ok (.ifCond .ne 6, 3) := by decide +kernel
theorem dX5_figure_33 : decode cX5_figure 33 = .ok (.bipush (-9), 2) := by decide +kernel
theorem dX5_figure_35 : decode cX5_figure 35 = .ok (.ireturn, 1) := by decide +kernel
theorem dX5_figure_36 : decode cX5_figure 36 = .ok (.aload_n 0, 1) := by decide +kernel
theorem dX5_figure_37 : decode cX5_figure 37 = .ok (.dup, 1) := by decide +kernel
theorem dX5_figure_38 : decode cX5_figure 38 = .ok (.getfield 87, 3) := by decide +kernel
theorem dX5_figure_41 : decode cX5_figure 41 = .ok (.iconst 1, 1) := by decide +kernel
theorem dX5_figure_42 : decode cX5_figure 42 = .ok (.iadd, 1) := by decide +kernel
theorem dX5_figure_43 : decode cX5_figure 43 = .ok (.putfield 87, 3) := by decide +kernel
theorem dX5_figure_46 : decode cX5_figure 46 = .ok (.aload_n 0, 1) := by decide +kernel
theorem dX5_figure_47 : decode cX5_figure 47 = .ok (.getfield 7, 3) := by decide +kernel
theorem dX5_figure_50 : decode cX5_figure 50 = .ok (.aload_n 0, 1) := by decide +kernel
theorem dX5_figure_51 : decode cX5_figure 51 = .ok (.getfield 87, 3) := by decide +kernel
theorem dX5_figure_54 : decode cX5_figure 54 = .ok (.iconst 1, 1) := by decide +kernel
theorem dX5_figure_55 : decode cX5_figure 55 = .ok (.isub, 1) := by decide +kernel
theorem dX5_figure_56 : decode cX5_figure 56 = .ok (.iaload, 1) := by decide +kernel
theorem dX5_figure_57 : decode cX5_figure 57 = .ok (.bipush 48, 2) := by decide +kernel
theorem dX5_figure_59 : decode cX5_figure 59 = .ok (.isub, 1) := by decide +kernel
theorem dX5_figure_60 : decode cX5_figure 60 = .ok (.ireturn, 1) := by decide +kernel
set_option maxRecDepth 20000 in
theorem ggX5_readOneArticle_X5_figure : GoodIn wsX5_readOneArticle wsX5_figure := goodIn_r _ [7, 8, 9, 10, 11, 12, 6, 13, 14, 15, 16, 17, 18, 19, 20, 21, 22, 23, 24, 25, 26, 27, 28, 29, 30, 31, 32, 33, 34, 35, 36, 37, 38, 39, 40, 41, 42, 43, 44, 45, 46] (by decide +kernel) (by decide +kernel)
set_option maxRecDepth 20000 in
theorem gX5_readOneArticle_X5_figure : GoodIn wsX5_readOneArticle (wsV RX5 90 RX5 yX5_figure wsX5_figure) := goodIn_app (goodIn_of _ (by decide +kernel)) ggX5_readOneArticle_X5_figure
theorem dX5_readOneArticle_0 : decode cX5_readOneArticle 0 = .ok (.iconst 0, 1) := by decide +kernel
theorem dX5_readOneArticle_1 : decode cX5_readOneArticle 1 = .ok (.istore_n 1, 1) := by decide +kernel
theorem dX5_readOneArticle_2 : decode cX5_readOneArticle 2 = .ok (.iload_n 1, 1) := by decide +kernel
theorem dX5_readOneArticle_3 : decode cX5_readOneArticle 3 = .ok (.iconst 3, 1) := by decide +kernel
theorem dX5_readOneArticle_4 : decode cX5_readOneArticle 4 = .ok (.if_icmp .ge 47, 3) := by decide +kernel
theorem dX5_readOneArticle_7 : decode cX5_readOneArticle 7 = .ok (.aload_n 0, 1) := by decide +kernel
theorem dX5_readOneArticle_8 : decode cX5_readOneArticle 8 = .ok (.iload_n 1, 1) := by decide +kernel
theorem dX5_readOneArticle_9 : decode cX5_readOneArticle 9 = .ok (.iconst 1, 1) := by decide +kernel
theorem dX5_readOneArticle_10 : decode cX5_readOneArticle 10 = .ok (.if_icmp .ne 7, 3) := by decide +kernel
theorem dX5_readOneArticle_13 : decode cX5_readOneArticle 13 = .ok (.iconst 3, 1) := by decide +kernel
theorem dX5_readOneArticle_14 : decode cX5_readOneArticle 14 = .ok (.goto 5, 3) := by decide +kernel
theorem dX5_readOneArticle_17 : decode cX5_readOneArticle 17 = .ok (.bipush 9, 2) := by decide +kernel
theorem dX5_readOneArticle_19 : decode cX5_readOneArticle 19 = .ok (.invokevirtual 90, 3) := by decide +kernel
theorem dX5_readOneArticle_22 : decode cX5_readOneArticle 22 = .ok (.istore_n 2, 1) := by decide +kernel
theorem dX5_readOneArticle_23 : decode cX5_readOneArticle 23 = .ok (.iload_n 2, 1) := by decide +kernel
theorem dX5_readOneArticle_24 : decode cX5_readOneArticle 24 = .ok (.bipush (-9), 2) := by decide +kernel
theorem dX5_readOneArticle_26 : decode cX5_readOneArticle 26 = .ok (.if_icmp .ne 5, 3) := by decide +kernel
theorem dX5_readOneArticle_29 : decode cX5_readOneArticle 29 = .ok (.iconst 0, 1) := by decide +kernel
theorem dX5_readOneArticle_30 : decode cX5_readOneArticle 30 = .ok (.ireturn, 1) := by decide +kernel
theorem dX5_readOneArticle_31 : decode cX5_readOneArticle 31 = .ok (.aload_n 0, 1) := by decide +kernel
theorem dX5_readOneArticle_32 : decode cX5_readOneArticle 32 = .ok (.getfield 28, 3) := by decide +kernel
theorem dX5_readOneArticle_35 : decode cX5_readOneArticle 35 = .ok (.iconst 3, 1) := by decide +kernel
theorem dX5_readOneArticle_36 : decode cX5_readOneArticle 36 = .ok (.aload_n 0, 1) := by decide +kernel
theorem dX5_readOneArticle_37 : decode cX5_readOneArticle 37 = .ok (.getfield 94, 3) := by decide +kernel
theorem dX5_readOneArticle_40 : decode cX5_readOneArticle 40 = .ok (.imul, 1) := by decide +kernel
theorem dX5_readOneArticle_41 : decode cX5_readOneArticle 41 = .ok (.iload_n 1, 1) := by decide +kernel
theorem dX5_readOneArticle_42 : decode cX5_readOneArticle 42 = .ok (.iadd, 1) := by decide +kernel
theorem dX5_readOneArticle_43 : decode cX5_readOneArticle 43 = .ok (.iload_n 2, 1) := by decide +kernel
theorem dX5_readOneArticle_44 : decode cX5_readOneArticle 44 = .ok (.iastore, 1) := by decide +kernel
theorem dX5_readOneArticle_45 : decode cX5_readOneArticle 45 = .ok (.iinc 1 1, 3) := by decide +kernel
theorem dX5_readOneArticle_48 : decode cX5_readOneArticle 48 = .ok (.goto (-46), 3) := by decide +kernel
theorem dX5_readOneArticle_51 : decode cX5_readOneArticle 51 = .ok (.aload_n 0, 1) := by decide +kernel
theorem dX5_readOneArticle_52 : decode cX5_readOneArticle 52 = .ok (.dup, 1) := by decide +kernel
theorem dX5_readOneArticle_53 : decode cX5_readOneArticle 53 = .ok (.getfield 94, 3) := by decide +kernel
theorem dX5_readOneArticle_56 : decode cX5_readOneArticle 56 = .ok (.iconst 1, 1) := by decide +kernel
theorem dX5_readOneArticle_57 : decode cX5_readOneArticle 57 = .ok (.iadd, 1) := by decide +kernel
theorem dX5_readOneArticle_58 : decode cX5_readOneArticle 58 = .ok (.putfield 94, 3) := by decide +kernel
theorem dX5_readOneArticle_61 : decode cX5_readOneArticle 61 = .ok (.iconst 1, 1) := by decide +kernel
theorem dX5_readOneArticle_62 : decode cX5_readOneArticle 62 = .ok (.ireturn, 1) := by decide +kernel
set_option maxRecDepth 20000 in
theorem ggX5_readOneMule_X5_figure : GoodIn wsX5_readOneMule wsX5_figure := goodIn_r _ [7, 8, 9, 10, 11, 12, 6, 13, 14, 15, 16, 17, 18, 19, 20, 21, 22, 23, 24, 25, 26, 27, 28, 29, 30, 31, 32, 33, 34, 35, 36, 37, 38, 39, 40, 41, 42, 43, 44, 45, 46] (by decide +kernel) (by decide +kernel)
set_option maxRecDepth 20000 in
theorem gX5_readOneMule_X5_figure : GoodIn wsX5_readOneMule (wsV RX5 90 RX5 yX5_figure wsX5_figure) := goodIn_app (goodIn_of _ (by decide +kernel)) ggX5_readOneMule_X5_figure
theorem dX5_readOneMule_0 : decode cX5_readOneMule 0 = .ok (.iconst 0, 1) := by decide +kernel
theorem dX5_readOneMule_1 : decode cX5_readOneMule 1 = .ok (.istore_n 1, 1) := by decide +kernel
theorem dX5_readOneMule_2 : decode cX5_readOneMule 2 = .ok (.iload_n 1, 1) := by decide +kernel
theorem dX5_readOneMule_3 : decode cX5_readOneMule 3 = .ok (.iconst 3, 1) := by decide +kernel
theorem dX5_readOneMule_4 : decode cX5_readOneMule 4 = .ok (.if_icmp .ge 46, 3) := by decide +kernel
theorem dX5_readOneMule_7 : decode cX5_readOneMule 7 = .ok (.aload_n 0, 1) := by decide +kernel
theorem dX5_readOneMule_8 : decode cX5_readOneMule 8 = .ok (.iload_n 1, 1) := by decide +kernel
theorem dX5_readOneMule_9 : decode cX5_readOneMule 9 = .ok (.ifCond .ne 8, 3) := by decide +kernel
theorem dX5_readOneMule_12 : decode cX5_readOneMule 12 = .ok (.bipush 9, 2) := by decide +kernel
theorem dX5_readOneMule_14 : decode cX5_readOneMule 14 = .ok (.goto 4, 3) := by decide +kernel
theorem dX5_readOneMule_17 : decode cX5_readOneMule 17 = .ok (.iconst 3, 1) := by decide +kernel
theorem dX5_readOneMule_18 : decode cX5_readOneMule 18 = .ok (.invokevirtual 90, 3) := by decide +kernel
theorem dX5_readOneMule_21 : decode cX5_readOneMule 21 = .ok (.istore_n 2, 1) := by decide +kernel
theorem dX5_readOneMule_22 : decode cX5_readOneMule 22 = .ok (.iload_n 2, 1) := by decide +kernel
theorem dX5_readOneMule_23 : decode cX5_readOneMule 23 = .ok (.bipush (-9), 2) := by decide +kernel
theorem dX5_readOneMule_25 : decode cX5_readOneMule 25 = .ok (.if_icmp .ne 5, 3) := by decide +kernel
theorem dX5_readOneMule_28 : decode cX5_readOneMule 28 = .ok (.iconst 0, 1) := by decide +kernel
theorem dX5_readOneMule_29 : decode cX5_readOneMule 29 = .ok (.ireturn, 1) := by decide +kernel
theorem dX5_readOneMule_30 : decode cX5_readOneMule 30 = .ok (.aload_n 0, 1) := by decide +kernel
theorem dX5_readOneMule_31 : decode cX5_readOneMule 31 = .ok (.getfield 25, 3) := by decide +kernel
theorem dX5_readOneMule_34 : decode cX5_readOneMule 34 = .ok (.iconst 3, 1) := by decide +kernel
theorem dX5_readOneMule_35 : decode cX5_readOneMule 35 = .ok (.aload_n 0, 1) := by decide +kernel
theorem dX5_readOneMule_36 : decode cX5_readOneMule 36 = .ok (.getfield 97, 3) := by decide +kernel
theorem dX5_readOneMule_39 : decode cX5_readOneMule 39 = .ok (.imul, 1) := by decide +kernel
theorem dX5_readOneMule_40 : decode cX5_readOneMule 40 = .ok (.iload_n 1, 1) := by decide +kernel
theorem dX5_readOneMule_41 : decode cX5_readOneMule 41 = .ok (.iadd, 1) := by decide +kernel
theorem dX5_readOneMule_42 : decode cX5_readOneMule 42 = .ok (.iload_n 2, 1) := by decide +kernel
theorem dX5_readOneMule_43 : decode cX5_readOneMule 43 = .ok (.iastore, 1) := by decide +kernel
theorem dX5_readOneMule_44 : decode cX5_readOneMule 44 = .ok (.iinc 1 1, 3) := by decide +kernel
theorem dX5_readOneMule_47 : decode cX5_readOneMule 47 = .ok (.goto (-45), 3) := by decide +kernel
theorem dX5_readOneMule_50 : decode cX5_readOneMule 50 = .ok (.aload_n 0, 1) := by decide +kernel
theorem dX5_readOneMule_51 : decode cX5_readOneMule 51 = .ok (.dup, 1) := by decide +kernel
theorem dX5_readOneMule_52 : decode cX5_readOneMule 52 = .ok (.getfield 97, 3) := by decide +kernel
theorem dX5_readOneMule_55 : decode cX5_readOneMule 55 = .ok (.iconst 1, 1) := by decide +kernel
theorem dX5_readOneMule_56 : decode cX5_readOneMule 56 = .ok (.iadd, 1) := by decide +kernel
theorem dX5_readOneMule_57 : decode cX5_readOneMule 57 = .ok (.putfield 97, 3) := by decide +kernel
theorem dX5_readOneMule_60 : decode cX5_readOneMule 60 = .ok (.iconst 1, 1) := by decide +kernel
theorem dX5_readOneMule_61 : decode cX5_readOneMule 61 = .ok (.ireturn, 1) := by decide +kernel
set_option maxRecDepth 20000 in
theorem ggX5_readPart_X5_readOneArticle : GoodIn wsX5_readPart wsX5_readOneArticle := goodIn_r _ [9, 10, 3, 11, 12, 13, 8, 14, 2, 15, 1, 16, 17, 18, 24, 25, 26, 27, 28, 29, 30, 31, 32, 33, 34, 35, 36, 37, 38, 39, 40, 41, 42, 43, 44, 45, 46, 47, 48, 49, 50, 51, 52, 53, 54, 55, 56] (by decide +kernel) (by decide +kernel)
set_option maxRecDepth 20000 in
theorem gX5_readPart_X5_readOneArticle : GoodIn wsX5_readPart (wsV RX5 100 RX5 yX5_readOneArticle wsX5_readOneArticle) := goodIn_app (goodIn_of _ (by decide +kernel)) ggX5_readPart_X5_readOneArticle
set_option maxRecDepth 20000 in
theorem ggX5_readPart_X5_readOneMule : GoodIn wsX5_readPart wsX5_readOneMule := goodIn_r _ [22, 23, 4, 11, 12, 13, 8, 14, 2, 15, 1, 16, 17, 18, 24, 25, 26, 27, 28, 29, 30, 31, 32, 33, 34, 35, 36, 37, 38, 39, 40, 41, 42, 43, 44, 45, 46, 47, 48, 49, 50, 51, 52, 53, 54, 55, 56] (by decide +kernel) (by decide +kernel)
set_option maxRecDepth 20000 in
theorem gX5_readPart_X5_readOneMule : GoodIn wsX5_readPart (wsV RX5 104 RX5 yX5_readOneMule wsX5_readOneMule) := goodIn_app (goodIn_of _ (by decide +kernel)) ggX5_readPart_X5_readOneMule
theorem dX5_readPart_0 : decode cX5_readPart 0 = .ok (.aload_n 0, 1) := by decide +kernel
theorem dX5_readPart_1 : decode cX5_readPart 1 = .ok (.getfield 7, 3) := by decide +kernel
theorem dX5_readPart_4 : decode cX5_readPart 4 = .ok (.aload_n 0, 1) := by decide +kernel
theorem dX5_readPart_5 : decode cX5_readPart 5 = .ok (.getfield 87, 3) := by decide +kernel
theorem dX5_readPart_8 : decode cX5_readPart 8 = .ok (.iaload, 1) := by decide +kernel
theorem dX5_readPart_9 : decode cX5_readPart 9 = .ok (.istore_n 1, 1) := by decide +kernel
theorem dX5_readPart_10 : decode cX5_readPart 10 = .ok (.aload_n 0, 1) := by decide +kernel
theorem dX5_readPart_11 : decode cX5_readPart 11 = .ok (.dup, 1) := by decide +kernel
theorem dX5_readPart_12 : decode cX5_readPart 12 = .ok (.getfield 87, 3) := by decide +kernel
theorem dX5_readPart_15 : decode cX5_readPart 15 = .ok (.iconst 1, 1) := by decide +kernel
theorem dX5_readPart_16 : decode cX5_readPart 16 = .ok (.iadd, 1) := by decide +kernel
theorem dX5_readPart_17 : decode cX5_readPart 17 = .ok (.putfield 87, 3) := by decide +kernel
theorem dX5_readPart_20 : decode cX5_readPart 20 = .ok (.iload_n 1, 1) := by decide +kernel
theorem dX5_readPart_21 : decode cX5_readPart 21 = .ok (.bipush 65, 2) := by decide +kernel
theorem dX5_readPart_23 : decode cX5_readPart 23 = .ok (.if_icmp .ne 16, 3) := by decide +kernel
theorem dX5_readPart_26 : decode cX5_readPart 26 = .ok (.aload_n 0, 1) := by decide +kernel
theorem dX5_readPart_27 : decode cX5_readPart 27 = .ok (.getfield 94, 3) := by decide +kernel
theorem dX5_readPart_30 : decode cX5_readPart 30 = .ok (.iconst 5, 1) := by decide +kernel
theorem dX5_readPart_31 : decode cX5_readPart 31 = .ok (.if_icmp .ge 8, 3) := by decide +kernel
theorem dX5_readPart_34 : decode cX5_readPart 34 = .ok (.aload_n 0, 1) := by decide +kernel
theorem dX5_readPart_35 : decode cX5_readPart 35 = .ok (.invokevirtual 100, 3) := by decide +kernel
theorem dX5_readPart_38 : decode cX5_readPart 38 = .ok (.ireturn, 1) := by decide +kernel
theorem dX5_readPart_39 : decode cX5_readPart 39 = .ok (.iload_n 1, 1) := by decide +kernel
theorem dX5_readPart_40 : decode cX5_readPart 40 = .ok (.bipush 77, 2) := by decide +kernel
theorem dX5_readPart_42 : decode cX5_readPart 42 = .ok (.if_icmp .ne 16, 3) := by decide +kernel
theorem dX5_readPart_45 : decode cX5_readPart 45 = .ok (.aload_n 0, 1) := by decide +kernel
theorem dX5_readPart_46 : decode cX5_readPart 46 = .ok (.getfield 97, 3) := by decide +kernel
theorem dX5_readPart_49 : decode cX5_readPart 49 = .ok (.iconst 5, 1) := by decide +kernel
theorem dX5_readPart_50 : decode cX5_readPart 50 = .ok (.if_icmp .ge 8, 3) := by decide +kernel
theorem dX5_readPart_53 : decode cX5_readPart 53 = .ok (.aload_n 0, 1) := by decide +kernel
theorem dX5_readPart_54 : decode cX5_readPart 54 = .ok (.invokevirtual 104, 3) := by decide +kernel
theorem dX5_readPart_57 : decode cX5_readPart 57 = .ok (.ireturn, 1) := by decide +kernel
theorem dX5_readPart_58 : decode cX5_readPart 58 = .ok (.aload_n 0, 1) := by decide +kernel
theorem dX5_readPart_59 : decode cX5_readPart 59 = .ok (.dup, 1) := by decide +kernel
theorem dX5_readPart_60 : decode cX5_readPart 60 = .ok (.getfield 87, 3) := by decide +kernel
theorem dX5_readPart_63 : decode cX5_readPart 63 = .ok (.iconst 1, 1) := by decide +kernel
theorem dX5_readPart_64 : decode cX5_readPart 64 = .ok (.isub, 1) := by decide +kernel
theorem dX5_readPart_65 : decode cX5_readPart 65 = .ok (.putfield 87, 3) := by decide +kernel
theorem dX5_readPart_68 : decode cX5_readPart 68 = .ok (.iconst 0, 1) := by decide +kernel
theorem dX5_readPart_69 : decode cX5_readPart 69 = .ok (.ireturn, 1) := by decide +kernel
set_option maxRecDepth 20000 in
theorem ggX5_readTreaty_X5_readPart : GoodIn wsX5_readTreaty wsX5_readPart := goodIn_r _ [10, 5, 1, 3, 2, 11, 12, 13, 9, 14, 15, 16, 17, 18, 19, 4, 20, 21, 22, 23, 24, 25, 26, 27, 28, 29, 30, 31, 32, 33, 34, 35, 36, 37, 38, 39, 40, 41, 42, 43, 44, 45, 46, 47, 48, 49, 50, 51, 52, 53, 54, 55, 56, 57, 58, 59, 60] (by decide +kernel) (by decide +kernel)
set_option maxRecDepth 20000 in
theorem gX5_readTreaty_X5_readPart : GoodIn wsX5_readTreaty (wsV RX5 107 RX5 yX5_readPart wsX5_readPart) := goodIn_app (goodIn_of _ (by decide +kernel)) ggX5_readTreaty_X5_readPart
theorem dX5_readTreaty_0 : decode cX5_readTreaty 0 = .ok (.aload_n 0, 1) := by decide +kernel
theorem dX5_readTreaty_1 : decode cX5_readTreaty 1 = .ok (.iconst 0, 1) := by decide +kernel
theorem dX5_readTreaty_2 : decode cX5_readTreaty 2 = .ok (.putfield 87, 3) := by decide +kernel
theorem dX5_readTreaty_5 : decode cX5_readTreaty 5 = .ok (.aload_n 0, 1) := by decide +kernel
theorem dX5_readTreaty_6 : decode cX5_readTreaty 6 = .ok (.iconst 0, 1) := by decide +kernel
theorem dX5_readTreaty_7 : decode cX5_readTreaty 7 = .ok (.putfield 97, 3) := by decide +kernel
theorem dX5_readTreaty_10 : decode cX5_readTreaty 10 = .ok (.aload_n 0, 1) := by decide +kernel
theorem dX5_readTreaty_11 : decode cX5_readTreaty 11 = .ok (.iconst 0, 1) := by decide +kernel
theorem dX5_readTreaty_12 : decode cX5_readTreaty 12 = .ok (.putfield 94, 3) := by decide +kernel
theorem dX5_readTreaty_15 : decode cX5_readTreaty 15 = .ok (.aload_n 0, 1) := by decide +kernel
theorem dX5_readTreaty_16 : decode cX5_readTreaty 16 = .ok (.getfield 84, 3) := by decide +kernel
theorem dX5_readTreaty_19 : decode cX5_readTreaty 19 = .ok (.ifCond .eq 14, 3) := by decide +kernel
theorem dX5_readTreaty_22 : decode cX5_readTreaty 22 = .ok (.aload_n 0, 1) := by decide +kernel
theorem dX5_readTreaty_23 : decode cX5_readTreaty 23 = .ok (.getfield 7, 3) := by decide +kernel
theorem dX5_readTreaty_26 : decode cX5_readTreaty 26 = .ok (.iconst 0, 1) := by decide +kernel
theorem dX5_readTreaty_27 : decode cX5_readTreaty 27 = .ok (.iaload, 1) := by decide +kernel
theorem dX5_readTreaty_28 : decode cX5_readTreaty 28 = .ok (.bipush 77, 2) := by decide +kernel
theorem dX5_readTreaty_30 : decode cX5_readTreaty 30 = .ok (.if_icmp .eq 5, 3) := by decide +kernel
theorem dX5_readTreaty_33 : decode cX5_readTreaty 33 = .ok (.iconst 0, 1) := by decide +kernel
theorem dX5_readTreaty_34 : decode cX5_readTreaty 34 = .ok (.ireturn, 1) := by decide +kernel
theorem dX5_readTreaty_35 : decode cX5_readTreaty 35 = .ok (.aload_n 0, 1) := by decide +kernel
theorem dX5_readTreaty_36 : decode cX5_readTreaty 36 = .ok (.iconst 1, 1) := by decide +kernel
theorem dX5_readTreaty_37 : decode cX5_readTreaty 37 = .ok (.putfield 87, 3) := by decide +kernel
theorem dX5_readTreaty_40 : decode cX5_readTreaty 40 = .ok (.aload_n 0, 1) := by decide +kernel
theorem dX5_readTreaty_41 : decode cX5_readTreaty 41 = .ok (.getfield 87, 3) := by decide +kernel
theorem dX5_readTreaty_44 : decode cX5_readTreaty 44 = .ok (.aload_n 0, 1) := by decide +kernel
theorem dX5_readTreaty_45 : decode cX5_readTreaty 45 = .ok (.getfield 84, 3) := by decide +kernel
theorem dX5_readTreaty_48 : decode cX5_readTreaty 48 = .ok (.if_icmp .ge 15, 3) := by decide +kernel
theorem dX5_readTreaty_51 : decode cX5_readTreaty 51 = .ok (.aload_n 0, 1) := by decide +kernel
theorem dX5_readTreaty_52 : decode cX5_readTreaty 52 = .ok (.invokevirtual 107, 3) := by decide +kernel
theorem dX5_readTreaty_55 : decode cX5_readTreaty 55 = .ok (.ifCond .ne (-15), 3) := by decide +kernel
theorem dX5_readTreaty_58 : decode cX5_readTreaty 58 = .ok (.aload_n 0, 1) := by decide +kernel
theorem dX5_readTreaty_59 : decode cX5_readTreaty 59 = .ok (.getfield 87, 3) := by decide +kernel
theorem dX5_readTreaty_62 : decode cX5_readTreaty 62 = .ok (.ireturn, 1) := by decide +kernel
theorem dX5_readTreaty_63 : decode cX5_readTreaty 63 = .ok (.bipush (-9), 2) := by decide +kernel
theorem dX5_readTreaty_65 : decode cX5_readTreaty 65 = .ok (.ireturn, 1) := by decide +kernel
set_option maxRecDepth 20000 in
theorem ggX5_fault_X5_readTreaty : GoodIn wsX5_fault wsX5_readTreaty := goodIn_r _ [6, 7, 8, 9, 10, 11, 12, 13, 14, 5, 15, 16, 17, 18, 19, 20, 21, 22, 23, 24, 25, 26, 27, 28, 29, 30, 31, 32, 33, 34, 35, 36, 37, 38, 39, 40, 41, 42, 43, 44, 45, 46, 47, 48, 49, 50, 51, 52, 53, 54, 55, 56, 57, 58, 59, 60, 61, 62, 63, 64, 65] (by decide +kernel) (by decide +kernel)
set_option maxRecDepth 20000 in
theorem gX5_fault_X5_readTreaty : GoodIn wsX5_fault (wsV RX5 110 RX5 yX5_readTreaty wsX5_readTreaty) := goodIn_app (goodIn_of _ (by decide +kernel)) ggX5_fault_X5_readTreaty
theorem dX5_fault_0 : decode cX5_fault 0 = .ok (.aload_n 0, 1) := by decide +kernel
theorem dX5_fault_1 : decode cX5_fault 1 = .ok (.iconst 0, 1) := by decide +kernel
theorem dX5_fault_2 : decode cX5_fault 2 = .ok (.putfield 68, 3) := by decide +kernel
theorem dX5_fault_5 : decode cX5_fault 5 = .ok (.aload_n 0, 1) := by decide +kernel
theorem dX5_fault_6 : decode cX5_fault 6 = .ok (.invokevirtual 110, 3) := by decide +kernel
theorem dX5_fault_9 : decode cX5_fault 9 = .ok (.ireturn, 1) := by decide +kernel
set_option maxRecDepth 20000 in
theorem ggX5_treaty_X5_readTreaty : GoodIn wsX5_treaty wsX5_readTreaty := goodIn_r _ [19, 20, 2, 4, 21, 22, 23, 24, 25, 18, 26, 27, 28, 29, 30, 10, 31, 32, 33, 34, 35, 36, 37, 38, 39, 40, 41, 7, 42, 43, 44, 45, 46, 47, 48, 49, 50, 51, 52, 53, 54, 55, 56, 57, 58, 59, 60, 61, 62, 63, 64, 65, 66, 67, 68, 69, 70, 71, 72, 73, 74] (by decide +kernel) (by decide +kernel)
set_option maxRecDepth 20000 in
theorem gX5_treaty_X5_readTreaty : GoodIn wsX5_treaty (wsV RX5 110 RX5 yX5_readTreaty wsX5_readTreaty) := goodIn_app (goodIn_of _ (by decide +kernel)) ggX5_treaty_X5_readTreaty
theorem dX5_treaty_0 : decode cX5_treaty 0 = .ok (.aload_n 0, 1) := by decide +kernel
theorem dX5_treaty_1 : decode cX5_treaty 1 = .ok (.iconst 0, 1) := by decide +kernel
theorem dX5_treaty_2 : decode cX5_treaty 2 = .ok (.putfield 68, 3) := by decide +kernel
theorem dX5_treaty_5 : decode cX5_treaty 5 = .ok (.aload_n 0, 1) := by decide +kernel
theorem dX5_treaty_6 : decode cX5_treaty 6 = .ok (.invokevirtual 110, 3) := by decide +kernel
theorem dX5_treaty_9 : decode cX5_treaty 9 = .ok (.bipush (-9), 2) := by decide +kernel
theorem dX5_treaty_11 : decode cX5_treaty 11 = .ok (.if_icmp .eq 6, 3) := by decide +kernel
theorem dX5_treaty_14 : decode cX5_treaty 14 = .ok (.bipush (-3), 2) := by decide +kernel
theorem dX5_treaty_16 : decode cX5_treaty 16 = .ok (.ireturn, 1) := by decide +kernel
theorem dX5_treaty_17 : decode cX5_treaty 17 = .ok (.aload_n 0, 1) := by decide +kernel
theorem dX5_treaty_18 : decode cX5_treaty 18 = .ok (.aload_n 0, 1) := by decide +kernel
theorem dX5_treaty_19 : decode cX5_treaty 19 = .ok (.getfield 97, 3) := by decide +kernel
theorem dX5_treaty_22 : decode cX5_treaty 22 = .ok (.putfield 72, 3) := by decide +kernel
theorem dX5_treaty_25 : decode cX5_treaty 25 = .ok (.aload_n 0, 1) := by decide +kernel
theorem dX5_treaty_26 : decode cX5_treaty 26 = .ok (.aload_n 0, 1) := by decide +kernel
theorem dX5_treaty_27 : decode cX5_treaty 27 = .ok (.getfield 94, 3) := by decide +kernel
theorem dX5_treaty_30 : decode cX5_treaty 30 = .ok (.putfield 79, 3) := by decide +kernel
theorem dX5_treaty_33 : decode cX5_treaty 33 = .ok (.iconst 0, 1) := by decide +kernel
theorem dX5_treaty_34 : decode cX5_treaty 34 = .ok (.istore_n 1, 1) := by decide +kernel
theorem dX5_treaty_35 : decode cX5_treaty 35 = .ok (.iload_n 1, 1) := by decide +kernel
theorem dX5_treaty_36 : decode cX5_treaty 36 = .ok (.bipush 17, 2) := by decide +kernel
theorem dX5_treaty_38 : decode cX5_treaty 38 = .ok (.if_icmp .ge 16, 3) := by decide +kernel
theorem dX5_treaty_41 : decode cX5_treaty 41 = .ok (.aload_n 0, 1) := by decide +kernel
theorem dX5_treaty_42 : decode cX5_treaty 42 = .ok (.getfield 31, 3) := by decide +kernel
theorem dX5_treaty_45 : decode cX5_treaty 45 = .ok (.iload_n 1, 1) := by decide +kernel
theorem dX5_treaty_46 : decode cX5_treaty 46 = .ok (.iconst 0, 1) := by decide +kernel
theorem dX5_treaty_47 : decode cX5_treaty 47 = .ok (.iastore, 1) := by decide +kernel
theorem dX5_treaty_48 : decode cX5_treaty 48 = .ok (.iinc 1 1, 3) := by decide +kernel
theorem dX5_treaty_51 : decode cX5_treaty 51 = .ok (.goto (-16), 3) := by decide +kernel
theorem dX5_treaty_54 : decode cX5_treaty 54 = .ok (.iconst 0, 1) := by decide +kernel
theorem dX5_treaty_55 : decode cX5_treaty 55 = .ok (.istore_n 1, 1) := by decide +kernel
theorem dX5_treaty_56 : decode cX5_treaty 56 = .ok (.iload_n 1, 1) := by decide +kernel
theorem dX5_treaty_57 : decode cX5_treaty 57 = .ok (.aload_n 0, 1) := by decide +kernel
theorem dX5_treaty_58 : decode cX5_treaty 58 = .ok (.getfield 72, 3) := by decide +kernel
theorem dX5_treaty_61 : decode cX5_treaty 61 = .ok (.if_icmp .ge 59, 3) := by decide +kernel
theorem dX5_treaty_64 : decode cX5_treaty 64 = .ok (.aload_n 0, 1) := by decide +kernel
theorem dX5_treaty_65 : decode cX5_treaty 65 = .ok (.getfield 31, 3) := by decide +kernel
theorem dX5_treaty_68 : decode cX5_treaty 68 = .ok (.iconst 0, 1) := by decide +kernel
theorem dX5_treaty_69 : decode cX5_treaty 69 = .ok (.iload_n 1, 1) := by decide +kernel
theorem dX5_treaty_70 : decode cX5_treaty 70 = .ok (.iadd, 1) := by decide +kernel
theorem dX5_treaty_71 : decode cX5_treaty 71 = .ok (.aload_n 0, 1) := by decide +kernel
theorem dX5_treaty_72 : decode cX5_treaty 72 = .ok (.getfield 25, 3) := by decide +kernel
theorem dX5_treaty_75 : decode cX5_treaty 75 = .ok (.iconst 3, 1) := by decide +kernel
theorem dX5_treaty_76 : decode cX5_treaty 76 = .ok (.iload_n 1, 1) := by decide +kernel
theorem dX5_treaty_77 : decode cX5_treaty 77 = .ok (.imul, 1) := by decide +kernel
theorem dX5_treaty_78 : decode cX5_treaty 78 = .ok (.iaload, 1) := by decide +kernel
theorem dX5_treaty_79 : decode cX5_treaty 79 = .ok (.iastore, 1) := by decide +kernel
theorem dX5_treaty_80 : decode cX5_treaty 80 = .ok (.aload_n 0, 1) := by decide +kernel
theorem dX5_treaty_81 : decode cX5_treaty 81 = .ok (.getfield 13, 3) := by decide +kernel
theorem dX5_treaty_84 : decode cX5_treaty 84 = .ok (.iload_n 1, 1) := by decide +kernel
theorem dX5_treaty_85 : decode cX5_treaty 85 = .ok (.aload_n 0, 1) := by decide +kernel
theorem dX5_treaty_86 : decode cX5_treaty 86 = .ok (.getfield 25, 3) := by decide +kernel
theorem dX5_treaty_89 : decode cX5_treaty 89 = .ok (.iconst 3, 1) := by decide +kernel
theorem dX5_treaty_90 : decode cX5_treaty 90 = .ok (.iload_n 1, 1) := by decide +kernel
theorem dX5_treaty_91 : decode cX5_treaty 91 = .ok (.imul, 1) := by decide +kernel
theorem dX5_treaty_92 : decode cX5_treaty 92 = .ok (.iconst 1, 1) := by decide +kernel
theorem dX5_treaty_93 : decode cX5_treaty 93 = .ok (.iadd, 1) := by decide +kernel
theorem dX5_treaty_94 : decode cX5_treaty 94 = .ok (.iaload, 1) := by decide +kernel
theorem dX5_treaty_95 : decode cX5_treaty 95 = .ok (.iastore, 1) := by decide +kernel
theorem dX5_treaty_96 : decode cX5_treaty 96 = .ok (.aload_n 0, 1) := by decide +kernel
theorem dX5_treaty_97 : decode cX5_treaty 97 = .ok (.getfield 31, 3) := by decide +kernel
theorem dX5_treaty_100 : decode cX5_treaty 100 = .ok (.iconst 5, 1) := by decide +kernel
theorem dX5_treaty_101 : decode cX5_treaty 101 = .ok (.iload_n 1, 1) := by decide +kernel
theorem dX5_treaty_102 : decode cX5_treaty 102 = .ok (.iadd, 1) := by decide +kernel
theorem dX5_treaty_103 : decode cX5_treaty 103 = .ok (.aload_n 0, 1) := by decide +kernel
theorem dX5_treaty_104 : decode cX5_treaty 104 = .ok (.getfield 25, 3) := by decide +kernel
theorem dX5_treaty_107 : decode cX5_treaty 107 = .ok (.iconst 3, 1) := by decide +kernel
theorem dX5_treaty_108 : decode cX5_treaty 108 = .ok (.iload_n 1, 1) := by decide +kernel
theorem dX5_treaty_109 : decode cX5_treaty 109 = .ok (.imul, 1) := by decide +kernel
theorem dX5_treaty_110 : decode cX5_treaty 110 = .ok (.iconst 2, 1) := by decide +kernel
theorem dX5_treaty_111 : decode cX5_treaty 111 = .ok (.iadd, 1) := by decide +kernel
theorem dX5_treaty_112 : decode cX5_treaty 112 = .ok (.iaload, 1) := by decide +kernel
theorem dX5_treaty_113 : decode cX5_treaty 113 = .ok (.iastore, 1) := by decide +kernel
theorem dX5_treaty_114 : decode cX5_treaty 114 = .ok (.iinc 1 1, 3) := by decide +kernel
theorem dX5_treaty_117 : decode cX5_treaty 117 = .ok (.goto (-61), 3) := by decide +kernel
theorem dX5_treaty_120 : decode cX5_treaty 120 = .ok (.iconst 0, 1) := by decide +kernel
theorem dX5_treaty_121 : decode cX5_treaty 121 = .ok (.istore_n 1, 1) := by decide +kernel
theorem dX5_treaty_122 : decode cX5_treaty 122 = .ok (.iload_n 1, 1) := by decide +kernel
theorem dX5_treaty_123 : decode cX5_treaty 123 = .ok (.aload_n 0, 1) := by decide +kernel
theorem dX5_treaty_124 : decode cX5_treaty 124 = .ok (.getfield 79, 3) := by decide +kernel
theorem dX5_treaty_127 : decode cX5_treaty 127 = .ok (.if_icmp .ge 55, 3) := by decide +kernel
theorem dX5_treaty_130 : decode cX5_treaty 130 = .ok (.aload_n 0, 1) := by decide +kernel
theorem dX5_treaty_131 : decode cX5_treaty 131 = .ok (.getfield 16, 3) := by decide +kernel
theorem dX5_treaty_134 : decode cX5_treaty 134 = .ok (.iload_n 1, 1) := by decide +kernel
theorem dX5_treaty_135 : decode cX5_treaty 135 = .ok (.aload_n 0, 1) := by decide +kernel
theorem dX5_treaty_136 : decode cX5_treaty 136 = .ok (.getfield 28, 3) := by decide +kernel
theorem dX5_treaty_139 : decode cX5_treaty 139 = .ok (.iconst 3, 1) := by decide +kernel
theorem dX5_treaty_140 : decode cX5_treaty 140 = .ok (.iload_n 1, 1) := by decide +kernel
theorem dX5_treaty_141 : decode cX5_treaty 141 = .ok (.imul, 1) := by decide +kernel
theorem dX5_treaty_142 : decode cX5_treaty 142 = .ok (.iaload, 1) := by decide +kernel
theorem dX5_treaty_143 : decode cX5_treaty 143 = .ok (.iastore, 1) := by decide +kernel
theorem dX5_treaty_144 : decode cX5_treaty 144 = .ok (.aload_n 0, 1) := by decide +kernel
theorem dX5_treaty_145 : decode cX5_treaty 145 = .ok (.getfield 19, 3) := by decide +kernel
theorem dX5_treaty_148 : decode cX5_treaty 148 = .ok (.iload_n 1, 1) := by decide +kernel
theorem dX5_treaty_149 : decode cX5_treaty 149 = .ok (.aload_n 0, 1) := by decide +kernel
theorem dX5_treaty_150 : decode cX5_treaty 150 = .ok (.getfield 28, 3) := by decide +kernel
theorem dX5_treaty_153 : decode cX5_treaty 153 = .ok (.iconst 3, 1) := by decide +kernel
theorem dX5_treaty_154 : decode cX5_treaty 154 = .ok (.iload_n 1, 1) := by decide +kernel
theorem dX5_treaty_155 : decode cX5_treaty 155 = .ok (.imul, 1) := by decide +kernel
theorem dX5_treaty_156 : decode cX5_treaty 156 = .ok (.iconst 1, 1) := by decide +kernel
theorem dX5_treaty_157 : decode cX5_treaty 157 = .ok (.iadd, 1) := by decide +kernel
theorem dX5_treaty_158 : decode cX5_treaty 158 = .ok (.iaload, 1) := by decide +kernel
theorem dX5_treaty_159 : decode cX5_treaty 159 = .ok (.iastore, 1) := by decide +kernel
theorem dX5_treaty_160 : decode cX5_treaty 160 = .ok (.aload_n 0, 1) := by decide +kernel
theorem dX5_treaty_161 : decode cX5_treaty 161 = .ok (.getfield 22, 3) := by decide +kernel
theorem dX5_treaty_164 : decode cX5_treaty 164 = .ok (.iload_n 1, 1) := by decide +kernel
theorem dX5_treaty_165 : decode cX5_treaty 165 = .ok (.aload_n 0, 1) := by decide +kernel
theorem dX5_treaty_166 : decode cX5_treaty 166 = .ok (.getfield 28, 3) := by decide +kernel
theorem dX5_treaty_169 : decode cX5_treaty 169 = .ok (.iconst 3, 1) := by decide +kernel
theorem dX5_treaty_170 : decode cX5_treaty 170 = .ok (.iload_n 1, 1) := by decide +kernel
theorem dX5_treaty_171 : decode cX5_treaty 171 = .ok (.imul, 1) := by decide +kernel
theorem dX5_treaty_172 : decode cX5_treaty 172 = .ok (.iconst 2, 1) := by decide +kernel
theorem dX5_treaty_173 : decode cX5_treaty 173 = .ok (.iadd, 1) := by decide +kernel
theorem dX5_treaty_174 : decode cX5_treaty 174 = .ok (.iaload, 1) := by decide +kernel
theorem dX5_treaty_175 : decode cX5_treaty 175 = .ok (.iastore, 1) := by decide +kernel
theorem dX5_treaty_176 : decode cX5_treaty 176 = .ok (.iinc 1 1, 3) := by decide +kernel
theorem dX5_treaty_179 : decode cX5_treaty 179 = .ok (.goto (-57), 3) := by decide +kernel
theorem dX5_treaty_182 : decode cX5_treaty 182 = .ok (.aload_n 0, 1) := by decide +kernel
theorem dX5_treaty_183 : decode cX5_treaty 183 = .ok (.iconst 0, 1) := by decide +kernel
theorem dX5_treaty_184 : decode cX5_treaty 184 = .ok (.putfield 114, 3) := by decide +kernel
theorem dX5_treaty_187 : decode cX5_treaty 187 = .ok (.aload_n 0, 1) := by decide +kernel
theorem dX5_treaty_188 : decode cX5_treaty 188 = .ok (.getfield 43, 3) := by decide +kernel
theorem dX5_treaty_191 : decode cX5_treaty 191 = .ok (.iconst 0, 1) := by decide +kernel
theorem dX5_treaty_192 : decode cX5_treaty 192 = .ok (.iconst 0, 1) := by decide +kernel
theorem dX5_treaty_193 : decode cX5_treaty 193 = .ok (.bastore, 1) := by decide +kernel
theorem dX5_treaty_194 : decode cX5_treaty 194 = .ok (.aload_n 0, 1) := by decide +kernel
theorem dX5_treaty_195 : decode cX5_treaty 195 = .ok (.getfield 43, 3) := by decide +kernel
theorem dX5_treaty_198 : decode cX5_treaty 198 = .ok (.iconst 1, 1) := by decide +kernel
theorem dX5_treaty_199 : decode cX5_treaty 199 = .ok (.iconst 0, 1) := by decide +kernel
theorem dX5_treaty_200 : decode cX5_treaty 200 = .ok (.bastore, 1) := by decide +kernel
theorem dX5_treaty_201 : decode cX5_treaty 201 = .ok (.bipush 10, 2) := by decide +kernel
theorem dX5_treaty_203 : decode cX5_treaty 203 = .ok (.aload_n 0, 1) := by decide +kernel
theorem dX5_treaty_204 : decode cX5_treaty 204 = .ok (.getfield 72, 3) := by decide +kernel
theorem dX5_treaty_207 : decode cX5_treaty 207 = .ok (.imul, 1) := by decide +kernel
theorem dX5_treaty_208 : decode cX5_treaty 208 = .ok (.aload_n 0, 1) := by decide +kernel
theorem dX5_treaty_209 : decode cX5_treaty 209 = .ok (.getfield 79, 3) := by decide +kernel
theorem dX5_treaty_212 : decode cX5_treaty 212 = .ok (.iadd, 1) := by decide +kernel
theorem dX5_treaty_213 : decode cX5_treaty 213 = .ok (.ireturn, 1) := by decide +kernel
theorem dX5_knows_0 : decode cX5_knows 0 = .ok (.iconst 1, 1) := by decide +kernel
theorem dX5_knows_1 : decode cX5_knows 1 = .ok (.aload_n 0, 1) := by decide +kernel
theorem dX5_knows_2 : decode cX5_knows 2 = .ok (.getfield 79, 3) := by decide +kernel
theorem dX5_knows_5 : decode cX5_knows 5 = .ok (.ishl, 1) := by decide +kernel
theorem dX5_knows_6 : decode cX5_knows 6 = .ok (.iconst 1, 1) := by decide +kernel
theorem dX5_knows_7 : decode cX5_knows 7 = .ok (.isub, 1) := by decide +kernel
theorem dX5_knows_8 : decode cX5_knows 8 = .ok (.istore_n 3, 1) := by decide +kernel
theorem dX5_knows_9 : decode cX5_knows 9 = .ok (.aload_n 1, 1) := by decide +kernel
theorem dX5_knows_10 : decode cX5_knows 10 = .ok (.iconst 5, 1) := by decide +kernel
theorem dX5_knows_11 : decode cX5_knows 11 = .ok (.iload_n 2, 1) := by decide +kernel
theorem dX5_knows_12 : decode cX5_knows 12 = .ok (.iadd, 1) := by decide +kernel
theorem dX5_knows_13 : decode cX5_knows 13 = .ok (.iaload, 1) := by decide +kernel
theorem dX5_knows_14 : decode cX5_knows 14 = .ok (.tableswitch 57 1 3 #[26, 28, 37], 26) := by decide +kernel
theorem dX5_knows_40 : decode cX5_knows 40 = .ok (.iload_n 3, 1) := by decide +kernel
theorem dX5_knows_41 : decode cX5_knows 41 = .ok (.ireturn, 1) := by decide +kernel
theorem dX5_knows_42 : decode cX5_knows 42 = .ok (.aload_n 1, 1) := by decide +kernel
theorem dX5_knows_43 : decode cX5_knows 43 = .ok (.bipush 10, 2) := by decide +kernel
theorem dX5_knows_45 : decode cX5_knows 45 = .ok (.iload_n 2, 1) := by decide +kernel
theorem dX5_knows_46 : decode cX5_knows 46 = .ok (.iadd, 1) := by decide +kernel
theorem dX5_knows_47 : decode cX5_knows 47 = .ok (.iaload, 1) := by decide +kernel
theorem dX5_knows_48 : decode cX5_knows 48 = .ok (.iload_n 3, 1) := by decide +kernel
theorem dX5_knows_49 : decode cX5_knows 49 = .ok (.iand, 1) := by decide +kernel
theorem dX5_knows_50 : decode cX5_knows 50 = .ok (.ireturn, 1) := by decide +kernel
theorem dX5_knows_51 : decode cX5_knows 51 = .ok (.aload_n 0, 1) := by decide +kernel
theorem dX5_knows_52 : decode cX5_knows 52 = .ok (.getfield 79, 3) := by decide +kernel
theorem dX5_knows_55 : decode cX5_knows 55 = .ok (.ifCond .ne 7, 3) := by decide +kernel
theorem dX5_knows_58 : decode cX5_knows 58 = .ok (.iconst 0, 1) := by decide +kernel
theorem dX5_knows_59 : decode cX5_knows 59 = .ok (.goto 11, 3) := by decide +kernel
theorem dX5_knows_62 : decode cX5_knows 62 = .ok (.iconst 1, 1) := by decide +kernel
theorem dX5_knows_63 : decode cX5_knows 63 = .ok (.aload_n 0, 1) := by decide +kernel
theorem dX5_knows_64 : decode cX5_knows 64 = .ok (.getfield 79, 3) := by decide +kernel
theorem dX5_knows_67 : decode cX5_knows 67 = .ok (.iconst 1, 1) := by decide +kernel
theorem dX5_knows_68 : decode cX5_knows 68 = .ok (.isub, 1) := by decide +kernel
theorem dX5_knows_69 : decode cX5_knows 69 = .ok (.ishl, 1) := by decide +kernel
theorem dX5_knows_70 : decode cX5_knows 70 = .ok (.ireturn, 1) := by decide +kernel
theorem dX5_knows_71 : decode cX5_knows 71 = .ok (.aload_n 1, 1) := by decide +kernel
theorem dX5_knows_72 : decode cX5_knows 72 = .ok (.bipush 10, 2) := by decide +kernel
theorem dX5_knows_74 : decode cX5_knows 74 = .ok (.iload_n 2, 1) := by decide +kernel
theorem dX5_knows_75 : decode cX5_knows 75 = .ok (.iadd, 1) := by decide +kernel
theorem dX5_knows_76 : decode cX5_knows 76 = .ok (.iaload, 1) := by decide +kernel
theorem dX5_knows_77 : decode cX5_knows 77 = .ok (.bipush 21, 2) := by decide +kernel
theorem dX5_knows_79 : decode cX5_knows 79 = .ok (.ior, 1) := by decide +kernel
theorem dX5_knows_80 : decode cX5_knows 80 = .ok (.iload_n 3, 1) := by decide +kernel
theorem dX5_knows_81 : decode cX5_knows 81 = .ok (.iand, 1) := by decide +kernel
theorem dX5_knows_82 : decode cX5_knows 82 = .ok (.ireturn, 1) := by decide +kernel
set_option maxRecDepth 20000 in
theorem ggX5_toStone_X5_in : GoodIn wsX5_toStone wsX5_in := goodIn_r _ [5] (by decide +kernel) (by decide +kernel)
set_option maxRecDepth 20000 in
theorem gX5_toStone_X5_in : GoodIn wsX5_toStone (va_wsS RX5 75 yX5_in wsX5_in) := goodIn_app (goodIn_of _ (by decide +kernel)) ggX5_toStone_X5_in
theorem dX5_toStone_0 : decode cX5_toStone 0 = .ok (.aload_n 0, 1) := by decide +kernel
theorem dX5_toStone_1 : decode cX5_toStone 1 = .ok (.iconst 0, 1) := by decide +kernel
theorem dX5_toStone_2 : decode cX5_toStone 2 = .ok (.iload_n 1, 1) := by decide +kernel
theorem dX5_toStone_3 : decode cX5_toStone 3 = .ok (.iadd, 1) := by decide +kernel
theorem dX5_toStone_4 : decode cX5_toStone 4 = .ok (.iaload, 1) := by decide +kernel
theorem dX5_toStone_5 : decode cX5_toStone 5 = .ok (.iload_n 2, 1) := by decide +kernel
theorem dX5_toStone_6 : decode cX5_toStone 6 = .ok (.iconst 1, 1) := by decide +kernel
theorem dX5_toStone_7 : decode cX5_toStone 7 = .ok (.if_icmp .ne 7, 3) := by decide +kernel
theorem dX5_toStone_10 : decode cX5_toStone 10 = .ok (.iconst 1, 1) := by decide +kernel
theorem dX5_toStone_11 : decode cX5_toStone 11 = .ok (.goto 4, 3) := by decide +kernel
theorem dX5_toStone_14 : decode cX5_toStone 14 = .ok (.iconst (-1), 1) := by decide +kernel
theorem dX5_toStone_15 : decode cX5_toStone 15 = .ok (.iadd, 1) := by decide +kernel
theorem dX5_toStone_16 : decode cX5_toStone 16 = .ok (.istore_n 3, 1) := by decide +kernel
theorem dX5_toStone_17 : decode cX5_toStone 17 = .ok (.iload_n 3, 1) := by decide +kernel
theorem dX5_toStone_18 : decode cX5_toStone 18 = .ok (.i2l, 1) := by decide +kernel
theorem dX5_toStone_19 : decode cX5_toStone 19 = .ok (.lconst 0, 1) := by decide +kernel
theorem dX5_toStone_20 : decode cX5_toStone 20 = .ok (.ldc2_w 117, 3) := by decide +kernel
theorem dX5_toStone_23 : decode cX5_toStone 23 = .ok (.invokestatic 75, 3) := by decide +kernel
theorem dX5_toStone_26 : decode cX5_toStone 26 = .ok (.ifCond .eq 7, 3) := by decide +kernel
theorem dX5_toStone_29 : decode cX5_toStone 29 = .ok (.iload_n 3, 1) := by decide +kernel
theorem dX5_toStone_30 : decode cX5_toStone 30 = .ok (.goto 5, 3) := by decide +kernel
theorem dX5_toStone_33 : decode cX5_toStone 33 = .ok (.bipush (-9), 2) := by decide +kernel
theorem dX5_toStone_35 : decode cX5_toStone 35 = .ok (.ireturn, 1) := by decide +kernel
theorem dX5_northern_0 : decode cX5_northern 0 = .ok (.iconst 0, 1) := by decide +kernel
theorem dX5_northern_1 : decode cX5_northern 1 = .ok (.istore 4, 2) := by decide +kernel
theorem dX5_northern_3 : decode cX5_northern 3 = .ok (.iconst 0, 1) := by decide +kernel
theorem dX5_northern_4 : decode cX5_northern 4 = .ok (.istore 5, 2) := by decide +kernel
theorem dX5_northern_6 : decode cX5_northern 6 = .ok (.iload 5, 2) := by decide +kernel
theorem dX5_northern_8 : decode cX5_northern 8 = .ok (.aload_n 0, 1) := by decide +kernel
theorem dX5_northern_9 : decode cX5_northern 9 = .ok (.getfield 72, 3) := by decide +kernel
theorem dX5_northern_12 : decode cX5_northern 12 = .ok (.if_icmp .ge 35, 3) := by decide +kernel
theorem dX5_northern_15 : decode cX5_northern 15 = .ok (.iload 4, 2) := by decide +kernel
theorem dX5_northern_17 : decode cX5_northern 17 = .ok (.iload 5, 2) := by decide +kernel
theorem dX5_northern_19 : decode cX5_northern 19 = .ok (.iload_n 2, 1) := by decide +kernel
theorem dX5_northern_20 : decode cX5_northern 20 = .ok (.if_icmp .eq 17, 3) := by decide +kernel
theorem dX5_northern_23 : decode cX5_northern 23 = .ok (.aload_n 1, 1) := by decide +kernel
theorem dX5_northern_24 : decode cX5_northern 24 = .ok (.iconst 0, 1) := by decide +kernel
theorem dX5_northern_25 : decode cX5_northern 25 = .ok (.iload 5, 2) := by decide +kernel
theorem dX5_northern_27 : decode cX5_northern 27 = .ok (.iadd, 1) := by decide +kernel
theorem dX5_northern_28 : decode cX5_northern 28 = .ok (.iaload, 1) := by decide +kernel
theorem dX5_northern_29 : decode cX5_northern 29 = .ok (.iload_n 3, 1) := by decide +kernel
theorem dX5_northern_30 : decode cX5_northern 30 = .ok (.if_icmp .lt 7, 3) := by decide +kernel
theorem dX5_northern_33 : decode cX5_northern 33 = .ok (.iconst 1, 1) := by decide +kernel
theorem dX5_northern_34 : decode cX5_northern 34 = .ok (.goto 4, 3) := by decide +kernel
theorem dX5_northern_37 : decode cX5_northern 37 = .ok (.iconst 0, 1) := by decide +kernel
theorem dX5_northern_38 : decode cX5_northern 38 = .ok (.iadd, 1) := by decide +kernel
theorem dX5_northern_39 : decode cX5_northern 39 = .ok (.istore 4, 2) := by decide +kernel
theorem dX5_northern_41 : decode cX5_northern 41 = .ok (.iinc 5 1, 3) := by decide +kernel
theorem dX5_northern_44 : decode cX5_northern 44 = .ok (.goto (-38), 3) := by decide +kernel
theorem dX5_northern_47 : decode cX5_northern 47 = .ok (.iload 4, 2) := by decide +kernel
theorem dX5_northern_49 : decode cX5_northern 49 = .ok (.ireturn, 1) := by decide +kernel
theorem dX5_isBarred_0 : decode cX5_isBarred 0 = .ok (.iload_n 0, 1) := by decide +kernel
theorem dX5_isBarred_1 : decode cX5_isBarred 1 = .ok (.tableswitch 77 0 2 #[27, 40, 54], 27) := by decide +kernel
theorem dX5_isBarred_28 : decode cX5_isBarred 28 = .ok (.iload_n 2, 1) := by decide +kernel
theorem dX5_isBarred_29 : decode cX5_isBarred 29 = .ok (.iload_n 1, 1) := by decide +kernel
theorem dX5_isBarred_30 : decode cX5_isBarred 30 = .ok (.iconst 4, 1) := by decide +kernel
theorem dX5_isBarred_31 : decode cX5_isBarred 31 = .ok (.irem, 1) := by decide +kernel
theorem dX5_isBarred_32 : decode cX5_isBarred 32 = .ok (.if_icmp .ne 7, 3) := by decide +kernel
theorem dX5_isBarred_35 : decode cX5_isBarred 35 = .ok (.iconst 1, 1) := by decide +kernel
theorem dX5_isBarred_36 : decode cX5_isBarred 36 = .ok (.goto 4, 3) := by decide +kernel
theorem dX5_isBarred_39 : decode cX5_isBarred 39 = .ok (.iconst 0, 1) := by decide +kernel
theorem dX5_isBarred_40 : decode cX5_isBarred 40 = .ok (.ireturn, 1) := by decide +kernel
theorem dX5_isBarred_41 : decode cX5_isBarred 41 = .ok (.iload_n 3, 1) := by decide +kernel
theorem dX5_isBarred_42 : decode cX5_isBarred 42 = .ok (.bipush 10, 2) := by decide +kernel
theorem dX5_isBarred_44 : decode cX5_isBarred 44 = .ok (.irem, 1) := by decide +kernel
theorem dX5_isBarred_45 : decode cX5_isBarred 45 = .ok (.iload_n 1, 1) := by decide +kernel
theorem dX5_isBarred_46 : decode cX5_isBarred 46 = .ok (.if_icmp .ge 7, 3) := by decide +kernel
theorem dX5_isBarred_49 : decode cX5_isBarred 49 = .ok (.iconst 1, 1) := by decide +kernel
theorem dX5_isBarred_50 : decode cX5_isBarred 50 = .ok (.goto 4, 3) := by decide +kernel
theorem dX5_isBarred_53 : decode cX5_isBarred 53 = .ok (.iconst 0, 1) := by decide +kernel
theorem dX5_isBarred_54 : decode cX5_isBarred 54 = .ok (.ireturn, 1) := by decide +kernel
theorem dX5_isBarred_55 : decode cX5_isBarred 55 = .ok (.iload 4, 2) := by decide +kernel
theorem dX5_isBarred_57 : decode cX5_isBarred 57 = .ok (.iload_n 1, 1) := by decide +kernel
theorem dX5_isBarred_58 : decode cX5_isBarred 58 = .ok (.iconst 2, 1) := by decide +kernel
theorem dX5_isBarred_59 : decode cX5_isBarred 59 = .ok (.irem, 1) := by decide +kernel
theorem dX5_isBarred_60 : decode cX5_isBarred 60 = .ok (.iconst 1, 1) := by decide +kernel
theorem dX5_isBarred_61 : decode cX5_isBarred 61 = .ok (.if_icmp .ne 7, 3) := by decide +kernel
theorem dX5_isBarred_64 : decode cX5_isBarred 64 = .ok (.iconst 0, 1) := by decide +kernel
theorem dX5_isBarred_65 : decode cX5_isBarred 65 = .ok (.goto 4, 3) := by decide +kernel
theorem dX5_isBarred_68 : decode cX5_isBarred 68 = .ok (.iconst 1, 1) := by decide +kernel
theorem dX5_isBarred_69 : decode cX5_isBarred 69 = .ok (.if_icmp .ne 7, 3) := by decide +kernel
theorem dX5_isBarred_72 : decode cX5_isBarred 72 = .ok (.iconst 1, 1) := by decide +kernel
theorem dX5_isBarred_73 : decode cX5_isBarred 73 = .ok (.goto 4, 3) := by decide +kernel
theorem dX5_isBarred_76 : decode cX5_isBarred 76 = .ok (.iconst 0, 1) := by decide +kernel
theorem dX5_isBarred_77 : decode cX5_isBarred 77 = .ok (.ireturn, 1) := by decide +kernel
theorem dX5_isBarred_78 : decode cX5_isBarred 78 = .ok (.iload 5, 2) := by decide +kernel
theorem dX5_isBarred_80 : decode cX5_isBarred 80 = .ok (.iload_n 1, 1) := by decide +kernel
theorem dX5_isBarred_81 : decode cX5_isBarred 81 = .ok (.iconst 5, 1) := by decide +kernel
theorem dX5_isBarred_82 : decode cX5_isBarred 82 = .ok (.irem, 1) := by decide +kernel
theorem dX5_isBarred_83 : decode cX5_isBarred 83 = .ok (.if_icmp .ge 7, 3) := by decide +kernel
theorem dX5_isBarred_86 : decode cX5_isBarred 86 = .ok (.iconst 1, 1) := by decide +kernel
theorem dX5_isBarred_87 : decode cX5_isBarred 87 = .ok (.goto 4, 3) := by decide +kernel
theorem dX5_isBarred_90 : decode cX5_isBarred 90 = .ok (.iconst 0, 1) := by decide +kernel
theorem dX5_isBarred_91 : decode cX5_isBarred 91 = .ok (.ireturn, 1) := by decide +kernel
set_option maxRecDepth 20000 in
theorem ggX5_forbids_X5_toStone : GoodIn wsX5_forbids wsX5_toStone := goodIn_r _ [9, 10, 11, 12, 8, 13] (by decide +kernel) (by decide +kernel)
set_option maxRecDepth 20000 in
theorem gX5_forbids_X5_toStone : GoodIn wsX5_forbids (va_wsS RX5 119 yX5_toStone wsX5_toStone) := goodIn_app (goodIn_of _ (by decide +kernel)) ggX5_forbids_X5_toStone
set_option maxRecDepth 20000 in
theorem ggX5_forbids_X5_northern : GoodIn wsX5_forbids wsX5_northern := goodIn_r _ [17, 18, 22, 23, 24, 25, 26, 27, 28, 29, 30, 31, 32, 33, 34, 35, 36, 37, 38, 39, 40, 41, 42, 43, 44, 45, 46, 47, 48, 49, 50, 51, 52, 53, 54] (by decide +kernel) (by decide +kernel)
set_option maxRecDepth 20000 in
theorem gX5_forbids_X5_northern : GoodIn wsX5_forbids (wsV RX5 123 RX5 yX5_northern wsX5_northern) := goodIn_app (goodIn_of _ (by decide +kernel)) ggX5_forbids_X5_northern
set_option maxRecDepth 20000 in
theorem ggX5_forbids_X5_isBarred : GoodIn wsX5_forbids wsX5_isBarred := goodIn_r _ [21] (by decide +kernel) (by decide +kernel)
set_option maxRecDepth 20000 in
theorem gX5_forbids_X5_isBarred : GoodIn wsX5_forbids (va_wsS RX5 126 yX5_isBarred wsX5_isBarred) := goodIn_app (goodIn_of _ (by decide +kernel)) ggX5_forbids_X5_isBarred
theorem dX5_forbids_0 : decode cX5_forbids 0 = .ok (.aload_n 1, 1) := by decide +kernel
theorem dX5_forbids_1 : decode cX5_forbids 1 = .ok (.iload_n 2, 1) := by decide +kernel
theorem dX5_forbids_2 : decode cX5_forbids 2 = .ok (.iload_n 3, 1) := by decide +kernel
theorem dX5_forbids_3 : decode cX5_forbids 3 = .ok (.invokestatic 119, 3) := by decide +kernel
theorem dX5_forbids_6 : decode cX5_forbids 6 = .ok (.istore 4, 2) := by decide +kernel
theorem dX5_forbids_8 : decode cX5_forbids 8 = .ok (.iload 4, 2) := by decide +kernel
theorem dX5_forbids_10 : decode cX5_forbids 10 = .ok (.bipush (-9), 2) := by decide +kernel
theorem dX5_forbids_12 : decode cX5_forbids 12 = .ok (.if_icmp .ne 7, 3) := by decide +kernel
theorem dX5_forbids_15 : decode cX5_forbids 15 = .ok (.iconst 0, 1) := by decide +kernel
theorem dX5_forbids_16 : decode cX5_forbids 16 = .ok (.goto 11, 3) := by decide +kernel
theorem dX5_forbids_19 : decode cX5_forbids 19 = .ok (.aload_n 0, 1) := by decide +kernel
theorem dX5_forbids_20 : decode cX5_forbids 20 = .ok (.aload_n 1, 1) := by decide +kernel
theorem dX5_forbids_21 : decode cX5_forbids 21 = .ok (.iload_n 2, 1) := by decide +kernel
theorem dX5_forbids_22 : decode cX5_forbids 22 = .ok (.iload 4, 2) := by decide +kernel
theorem dX5_forbids_24 : decode cX5_forbids 24 = .ok (.invokevirtual 123, 3) := by decide +kernel
theorem dX5_forbids_27 : decode cX5_forbids 27 = .ok (.istore 5, 2) := by decide +kernel
theorem dX5_forbids_29 : decode cX5_forbids 29 = .ok (.iconst 0, 1) := by decide +kernel
theorem dX5_forbids_30 : decode cX5_forbids 30 = .ok (.istore 6, 2) := by decide +kernel
theorem dX5_forbids_32 : decode cX5_forbids 32 = .ok (.iconst 0, 1) := by decide +kernel
theorem dX5_forbids_33 : decode cX5_forbids 33 = .ok (.istore 7, 2) := by decide +kernel
theorem dX5_forbids_35 : decode cX5_forbids 35 = .ok (.iload 7, 2) := by decide +kernel
theorem dX5_forbids_37 : decode cX5_forbids 37 = .ok (.aload_n 0, 1) := by decide +kernel
theorem dX5_forbids_38 : decode cX5_forbids 38 = .ok (.getfield 79, 3) := by decide +kernel
theorem dX5_forbids_41 : decode cX5_forbids 41 = .ok (.if_icmp .ge 79, 3) := by decide +kernel
theorem dX5_forbids_44 : decode cX5_forbids 44 = .ok (.aload_n 0, 1) := by decide +kernel
theorem dX5_forbids_45 : decode cX5_forbids 45 = .ok (.getfield 16, 3) := by decide +kernel
theorem dX5_forbids_48 : decode cX5_forbids 48 = .ok (.iload 7, 2) := by decide +kernel
theorem dX5_forbids_50 : decode cX5_forbids 50 = .ok (.iaload, 1) := by decide +kernel
theorem dX5_forbids_51 : decode cX5_forbids 51 = .ok (.iload 4, 2) := by decide +kernel
theorem dX5_forbids_53 : decode cX5_forbids 53 = .ok (.if_icmp .ne 40, 3) := by decide +kernel
theorem dX5_forbids_56 : decode cX5_forbids 56 = .ok (.aload_n 0, 1) := by decide +kernel
theorem dX5_forbids_57 : decode cX5_forbids 57 = .ok (.getfield 19, 3) := by decide +kernel
theorem dX5_forbids_60 : decode cX5_forbids 60 = .ok (.iload 7, 2) := by decide +kernel
theorem dX5_forbids_62 : decode cX5_forbids 62 = .ok (.iaload, 1) := by decide +kernel
theorem dX5_forbids_63 : decode cX5_forbids 63 = .ok (.aload_n 0, 1) := by decide +kernel
theorem dX5_forbids_64 : decode cX5_forbids 64 = .ok (.getfield 22, 3) := by decide +kernel
theorem dX5_forbids_67 : decode cX5_forbids 67 = .ok (.iload 7, 2) := by decide +kernel
theorem dX5_forbids_69 : decode cX5_forbids 69 = .ok (.iaload, 1) := by decide +kernel
theorem dX5_forbids_70 : decode cX5_forbids 70 = .ok (.aload_n 0, 1) := by decide +kernel
theorem dX5_forbids_71 : decode cX5_forbids 71 = .ok (.getfield 13, 3) := by decide +kernel
theorem dX5_forbids_74 : decode cX5_forbids 74 = .ok (.iload_n 2, 1) := by decide +kernel
theorem dX5_forbids_75 : decode cX5_forbids 75 = .ok (.iaload, 1) := by decide +kernel
theorem dX5_forbids_76 : decode cX5_forbids 76 = .ok (.aload_n 1, 1) := by decide +kernel
theorem dX5_forbids_77 : decode cX5_forbids 77 = .ok (.bipush 15, 2) := by decide +kernel
theorem dX5_forbids_79 : decode cX5_forbids 79 = .ok (.iaload, 1) := by decide +kernel
theorem dX5_forbids_80 : decode cX5_forbids 80 = .ok (.iload_n 3, 1) := by decide +kernel
theorem dX5_forbids_81 : decode cX5_forbids 81 = .ok (.iload 5, 2) := by decide +kernel
theorem dX5_forbids_83 : decode cX5_forbids 83 = .ok (.invokestatic 126, 3) := by decide +kernel
theorem dX5_forbids_86 : decode cX5_forbids 86 = .ok (.ifCond .eq 7, 3) := by decide +kernel
theorem dX5_forbids_89 : decode cX5_forbids 89 = .ok (.iconst 1, 1) := by decide +kernel
theorem dX5_forbids_90 : decode cX5_forbids 90 = .ok (.goto 4, 3) := by decide +kernel
theorem dX5_forbids_93 : decode cX5_forbids 93 = .ok (.iconst 0, 1) := by decide +kernel
theorem dX5_forbids_94 : decode cX5_forbids 94 = .ok (.istore 8, 2) := by decide +kernel
theorem dX5_forbids_96 : decode cX5_forbids 96 = .ok (.iload 6, 2) := by decide +kernel
theorem dX5_forbids_98 : decode cX5_forbids 98 = .ok (.iload 8, 2) := by decide +kernel
theorem dX5_forbids_100 : decode cX5_forbids 100 = .ok (.ifCond .eq 10, 3) := by decide +kernel
theorem dX5_forbids_103 : decode cX5_forbids 103 = .ok (.iconst 1, 1) := by decide +kernel
theorem dX5_forbids_104 : decode cX5_forbids 104 = .ok (.iload 7, 2) := by decide +kernel
theorem dX5_forbids_106 : decode cX5_forbids 106 = .ok (.ishl, 1) := by decide +kernel
theorem dX5_forbids_107 : decode cX5_forbids 107 = .ok (.goto 4, 3) := by decide +kernel
theorem dX5_forbids_110 : decode cX5_forbids 110 = .ok (.iconst 0, 1) := by decide +kernel
theorem dX5_forbids_111 : decode cX5_forbids 111 = .ok (.ior, 1) := by decide +kernel
theorem dX5_forbids_112 : decode cX5_forbids 112 = .ok (.istore 6, 2) := by decide +kernel
theorem dX5_forbids_114 : decode cX5_forbids 114 = .ok (.iinc 7 1, 3) := by decide +kernel
theorem dX5_forbids_117 : decode cX5_forbids 117 = .ok (.goto (-82), 3) := by decide +kernel
theorem dX5_forbids_120 : decode cX5_forbids 120 = .ok (.iload 6, 2) := by decide +kernel
theorem dX5_forbids_122 : decode cX5_forbids 122 = .ok (.ireturn, 1) := by decide +kernel
set_option maxRecDepth 20000 in
theorem ggX5_isBalking_X5_forbids : GoodIn wsX5_isBalking wsX5_forbids := goodIn_r _ [5, 6, 7, 8, 9, 10, 11, 12, 4, 13, 14, 15, 16, 17, 18, 19, 20, 21, 22, 23, 24, 25, 30, 31, 32, 33, 34, 35, 36, 37, 38, 39, 40, 41, 42, 43, 44, 45, 46, 47, 48, 49, 50, 51, 52, 53, 54, 55, 56, 57, 58, 59, 60, 61, 62] (by decide +kernel) (by decide +kernel)
set_option maxRecDepth 20000 in
theorem gX5_isBalking_X5_forbids : GoodIn wsX5_isBalking (wsV RX5 130 RX5 yX5_forbids wsX5_forbids) := goodIn_app (goodIn_of _ (by decide +kernel)) ggX5_isBalking_X5_forbids
set_option maxRecDepth 20000 in
theorem ggX5_isBalking_X5_knows : GoodIn wsX5_isBalking wsX5_knows := goodIn_r _ [29, 6, 30, 31, 32, 33, 34, 35, 36, 37, 38, 39, 40, 41, 42, 43, 44, 45, 46, 47, 48, 49, 50, 51, 52, 53, 54, 55, 56, 57, 58, 59, 60, 61, 62] (by decide +kernel) (by decide +kernel)
set_option maxRecDepth 20000 in
theorem gX5_isBalking_X5_knows : GoodIn wsX5_isBalking (wsV RX5 133 RX5 yX5_knows wsX5_knows) := goodIn_app (goodIn_of _ (by decide +kernel)) ggX5_isBalking_X5_knows
theorem dX5_isBalking_0 : decode cX5_isBalking 0 = .ok (.aload_n 0, 1) := by decide +kernel
theorem dX5_isBalking_1 : decode cX5_isBalking 1 = .ok (.aload_n 1, 1) := by decide +kernel
theorem dX5_isBalking_2 : decode cX5_isBalking 2 = .ok (.iload_n 2, 1) := by decide +kernel
theorem dX5_isBalking_3 : decode cX5_isBalking 3 = .ok (.iload_n 3, 1) := by decide +kernel
theorem dX5_isBalking_4 : decode cX5_isBalking 4 = .ok (.invokevirtual 130, 3) := by decide +kernel
theorem dX5_isBalking_7 : decode cX5_isBalking 7 = .ok (.aload_n 0, 1) := by decide +kernel
theorem dX5_isBalking_8 : decode cX5_isBalking 8 = .ok (.aload_n 1, 1) := by decide +kernel
theorem dX5_isBalking_9 : decode cX5_isBalking 9 = .ok (.iload_n 2, 1) := by decide +kernel
theorem dX5_isBalking_10 : decode cX5_isBalking 10 = .ok (.invokevirtual 133, 3) := by decide +kernel
theorem dX5_isBalking_13 : decode cX5_isBalking 13 = .ok (.iand, 1) := by decide +kernel
theorem dX5_isBalking_14 : decode cX5_isBalking 14 = .ok (.ifCond .eq 7, 3) := by decide +kernel
theorem dX5_isBalking_17 : decode cX5_isBalking 17 = .ok (.iconst 1, 1) := by decide +kernel
theorem dX5_isBalking_18 : decode cX5_isBalking 18 = .ok (.goto 4, 3) := by decide +kernel
theorem dX5_isBalking_21 : decode cX5_isBalking 21 = .ok (.iconst 0, 1) := by decide +kernel
theorem dX5_isBalking_22 : decode cX5_isBalking 22 = .ok (.ireturn, 1) := by decide +kernel
theorem dX5_about_0 : decode cX5_about 0 = .ok (.aload_n 0, 1) := by decide +kernel
theorem dX5_about_1 : decode cX5_about 1 = .ok (.iconst 0, 1) := by decide +kernel
theorem dX5_about_2 : decode cX5_about 2 = .ok (.putfield 68, 3) := by decide +kernel
theorem dX5_about_5 : decode cX5_about 5 = .ok (.iload_n 1, 1) := by decide +kernel
theorem dX5_about_6 : decode cX5_about 6 = .ok (.tableswitch 83 0 6 #[42, 47, 52, 60, 68, 73, 78], 42) := by decide +kernel
theorem dX5_about_48 : decode cX5_about 48 = .ok (.aload_n 0, 1) := by decide +kernel
theorem dX5_about_49 : decode cX5_about 49 = .ok (.getfield 72, 3) := by decide +kernel
theorem dX5_about_52 : decode cX5_about 52 = .ok (.ireturn, 1) := by decide +kernel
theorem dX5_about_53 : decode cX5_about 53 = .ok (.aload_n 0, 1) := by decide +kernel
theorem dX5_about_54 : decode cX5_about 54 = .ok (.getfield 79, 3) := by decide +kernel
theorem dX5_about_57 : decode cX5_about 57 = .ok (.ireturn, 1) := by decide +kernel
theorem dX5_about_58 : decode cX5_about 58 = .ok (.aload_n 0, 1) := by decide +kernel
theorem dX5_about_59 : decode cX5_about 59 = .ok (.getfield 31, 3) := by decide +kernel
theorem dX5_about_62 : decode cX5_about 62 = .ok (.bipush 15, 2) := by decide +kernel
theorem dX5_about_64 : decode cX5_about 64 = .ok (.iaload, 1) := by decide +kernel
theorem dX5_about_65 : decode cX5_about 65 = .ok (.ireturn, 1) := by decide +kernel
theorem dX5_about_66 : decode cX5_about 66 = .ok (.aload_n 0, 1) := by decide +kernel
theorem dX5_about_67 : decode cX5_about 67 = .ok (.getfield 31, 3) := by decide +kernel
theorem dX5_about_70 : decode cX5_about 70 = .ok (.bipush 16, 2) := by decide +kernel
theorem dX5_about_72 : decode cX5_about 72 = .ok (.iaload, 1) := by decide +kernel
theorem dX5_about_73 : decode cX5_about 73 = .ok (.ireturn, 1) := by decide +kernel
theorem dX5_about_74 : decode cX5_about 74 = .ok (.aload_n 0, 1) := by decide +kernel
theorem dX5_about_75 : decode cX5_about 75 = .ok (.getfield 114, 3) := by decide +kernel
theorem dX5_about_78 : decode cX5_about 78 = .ok (.ireturn, 1) := by decide +kernel
theorem dX5_about_79 : decode cX5_about 79 = .ok (.aload_n 0, 1) := by decide +kernel
theorem dX5_about_80 : decode cX5_about 80 = .ok (.getfield 137, 3) := by decide +kernel
theorem dX5_about_83 : decode cX5_about 83 = .ok (.ireturn, 1) := by decide +kernel
theorem dX5_about_84 : decode cX5_about 84 = .ok (.aload_n 0, 1) := by decide +kernel
theorem dX5_about_85 : decode cX5_about 85 = .ok (.getfield 84, 3) := by decide +kernel
theorem dX5_about_88 : decode cX5_about 88 = .ok (.ireturn, 1) := by decide +kernel
theorem dX5_about_89 : decode cX5_about 89 = .ok (.bipush (-2), 2) := by decide +kernel
theorem dX5_about_91 : decode cX5_about 91 = .ok (.ireturn, 1) := by decide +kernel
set_option maxRecDepth 20000 in
theorem ggX5_knowers_X5_knows : GoodIn wsX5_knowers wsX5_knows := goodIn_r _ [7, 8, 12, 13, 14, 15, 16, 17, 18, 19, 20, 21, 22, 23, 24, 25, 26, 27, 28, 29, 30, 31, 32, 33, 34, 35, 36, 37, 38, 39, 40, 41, 42, 43, 44] (by decide +kernel) (by decide +kernel)
set_option maxRecDepth 20000 in
theorem gX5_knowers_X5_knows : GoodIn wsX5_knowers (wsV RX5 133 RX5 yX5_knows wsX5_knows) := goodIn_app (goodIn_of _ (by decide +kernel)) ggX5_knowers_X5_knows
set_option maxRecDepth 20000 in
theorem ggX5_knowers_X5_has : GoodIn wsX5_knowers wsX5_has := goodIn_r _ [11] (by decide +kernel) (by decide +kernel)
set_option maxRecDepth 20000 in
theorem gX5_knowers_X5_has : GoodIn wsX5_knowers (va_wsS RX5 140 yX5_has wsX5_has) := goodIn_app (goodIn_of _ (by decide +kernel)) ggX5_knowers_X5_has
theorem dX5_knowers_0 : decode cX5_knowers 0 = .ok (.iconst 0, 1) := by decide +kernel
theorem dX5_knowers_1 : decode cX5_knowers 1 = .ok (.istore_n 2, 1) := by decide +kernel
theorem dX5_knowers_2 : decode cX5_knowers 2 = .ok (.iconst 0, 1) := by decide +kernel
theorem dX5_knowers_3 : decode cX5_knowers 3 = .ok (.istore_n 3, 1) := by decide +kernel
theorem dX5_knowers_4 : decode cX5_knowers 4 = .ok (.iload_n 3, 1) := by decide +kernel
theorem dX5_knowers_5 : decode cX5_knowers 5 = .ok (.aload_n 0, 1) := by decide +kernel
theorem dX5_knowers_6 : decode cX5_knowers 6 = .ok (.getfield 72, 3) := by decide +kernel

theorem dX5_teach_90 : decode cX5_teach 90 = .ok (.iload_n 2, 1) := by decide +kernel
theorem dX5_teach_91 : decode cX5_teach 91 = .ok (.istore_n 2, 1) := by decide +kernel
theorem dX5_teach_92 : decode cX5_teach 92 = .ok (.iinc 3 1, 3) := by decide +kernel
theorem dX5_teach_95 : decode cX5_teach 95 = .ok (.goto (-75), 3) := by decide +kernel
theorem dX5_teach_98 : decode cX5_teach 98 = .ok (.iload_n 2, 1) := by decide +kernel
theorem dX5_teach_99 : decode cX5_teach 99 = .ok (.ireturn, 1) := by decide +kernel
set_option maxRecDepth 20000 in
theorem ggX5_differ_X5_noMule : GoodIn wsX5_differ wsX5_noMule := goodIn_r _ [7, 8, 9, 10, 6, 11, 23, 24, 25, 26, 27, 28, 29, 30, 31, 32, 33, 34, 35, 36, 37, 38, 39, 40, 41, 42, 43, 44, 45, 46, 47, 48, 49, 50, 51, 52, 53, 54, 55] (by decide +kernel) (by decide +kernel)
set_option maxRecDepth 20000 in
theorem gX5_differ_X5_noMule : GoodIn wsX5_differ (wsV RX5 151 RX5 yX5_noMule wsX5_noMule) := goodIn_app (goodIn_of _ (by decide +kernel)) ggX5_differ_X5_noMule
set_option maxRecDepth 20000 in
theorem ggX5_differ_X5_knows : GoodIn wsX5_differ wsX5_knows := goodIn_r _ [15, 16, 23, 24, 25, 26, 27, 28, 29, 30, 31, 32, 33, 34, 35, 36, 37, 38, 39, 40, 41, 42, 43, 44, 45, 46, 47, 48, 49, 50, 51, 52, 53, 54, 55] (by decide +kernel) (by decide +kernel)
set_option maxRecDepth 20000 in
theorem gX5_differ_X5_knows : GoodIn wsX5_differ (wsV RX5 133 RX5 yX5_knows wsX5_knows) := goodIn_app (goodIn_of _ (by decide +kernel)) ggX5_differ_X5_knows
set_option maxRecDepth 20000 in
theorem ggX5_differ_X5_leastOf : GoodIn wsX5_differ wsX5_leastOf := goodIn_r _ [19, 20, 21, 6, 22] (by decide +kernel) (by decide +kernel)
set_option maxRecDepth 20000 in
theorem gX5_differ_X5_leastOf : GoodIn wsX5_differ (va_wsS RX5 158 yX5_leastOf wsX5_leastOf) := goodIn_app (goodIn_of _ (by decide +kernel)) ggX5_differ_X5_leastOf
theorem dX5_differ_0 : decode cX5_differ 0 = .ok (.aload_n 0, 1) := by decide +kernel
theorem dX5_differ_1 : decode cX5_differ 1 = .ok (.iconst 0, 1) := by decide +kernel
theorem dX5_differ_2 : decode cX5_differ 2 = .ok (.putfield 68, 3) := by decide +kernel
theorem dX5_differ_5 : decode cX5_differ 5 = .ok (.aload_n 0, 1) := by decide +kernel
theorem dX5_differ_6 : decode cX5_differ 6 = .ok (.iload_n 1, 1) := by decide +kernel
theorem dX5_differ_7 : decode cX5_differ 7 = .ok (.invokevirtual 151, 3) := by decide +kernel
theorem dX5_differ_10 : decode cX5_differ 10 = .ok (.ifCond .ne 11, 3) := by decide +kernel
theorem dX5_differ_13 : decode cX5_differ 13 = .ok (.aload_n 0, 1) := by decide +kernel
theorem dX5_differ_14 : decode cX5_differ 14 = .ok (.iload_n 2, 1) := by decide +kernel
theorem dX5_differ_15 : decode cX5_differ 15 = .ok (.invokevirtual 151, 3) := by decide +kernel
theorem dX5_differ_18 : decode cX5_differ 18 = .ok (.ifCond .eq 5, 3) := by decide +kernel
theorem dX5_differ_21 : decode cX5_differ 21 = .ok (.iconst (-1), 1) := by decide +kernel
theorem dX5_differ_22 : decode cX5_differ 22 = .ok (.ireturn, 1) := by decide +kernel
theorem dX5_differ_23 : decode cX5_differ 23 = .ok (.aload_n 0, 1) := by decide +kernel
theorem dX5_differ_24 : decode cX5_differ 24 = .ok (.aload_n 0, 1) := by decide +kernel
theorem dX5_differ_25 : decode cX5_differ 25 = .ok (.getfield 31, 3) := by decide +kernel
theorem dX5_differ_28 : decode cX5_differ 28 = .ok (.iload_n 1, 1) := by decide +kernel
theorem dX5_differ_29 : decode cX5_differ 29 = .ok (.invokevirtual 133, 3) := by decide +kernel
theorem dX5_differ_32 : decode cX5_differ 32 = .ok (.aload_n 0, 1) := by decide +kernel
theorem dX5_differ_33 : decode cX5_differ 33 = .ok (.aload_n 0, 1) := by decide +kernel
theorem dX5_differ_34 : decode cX5_differ 34 = .ok (.getfield 31, 3) := by decide +kernel
theorem dX5_differ_37 : decode cX5_differ 37 = .ok (.iload_n 2, 1) := by decide +kernel
theorem dX5_differ_38 : decode cX5_differ 38 = .ok (.invokevirtual 133, 3) := by decide +kernel
theorem dX5_differ_41 : decode cX5_differ 41 = .ok (.ixor, 1) := by decide +kernel
theorem dX5_differ_42 : decode cX5_differ 42 = .ok (.invokestatic 158, 3) := by decide +kernel
theorem dX5_differ_45 : decode cX5_differ 45 = .ok (.ireturn, 1) := by decide +kernel
theorem dX5_power_0 : decode cX5_power 0 = .ok (.iconst 1, 1) := by decide +kernel
theorem dX5_power_1 : decode cX5_power 1 = .ok (.istore_n 2, 1) := by decide +kernel
theorem dX5_power_2 : decode cX5_power 2 = .ok (.iconst 0, 1) := by decide +kernel
theorem dX5_power_3 : decode cX5_power 3 = .ok (.istore_n 3, 1) := by decide +kernel
theorem dX5_power_4 : decode cX5_power 4 = .ok (.iload_n 3, 1) := by decide +kernel
theorem dX5_power_5 : decode cX5_power 5 = .ok (.iload_n 1, 1) := by decide +kernel
theorem dX5_power_6 : decode cX5_power 6 = .ok (.if_icmp .ge 13, 3) := by decide +kernel
theorem dX5_power_9 : decode cX5_power 9 = .ok (.iload_n 2, 1) := by decide +kernel
theorem dX5_power_10 : decode cX5_power 10 = .ok (.iload_n 0, 1) := by decide +kernel
theorem dX5_power_11 : decode cX5_power 11 = .ok (.imul, 1) := by decide +kernel
theorem dX5_power_12 : decode cX5_power 12 = .ok (.istore_n 2, 1) := by decide +kernel
theorem dX5_power_13 : decode cX5_power 13 = .ok (.iinc 3 1, 3) := by decide +kernel
theorem dX5_power_16 : decode cX5_power 16 = .ok (.goto (-12), 3) := by decide +kernel
theorem dX5_power_19 : decode cX5_power 19 = .ok (.iload_n 2, 1) := by decide +kernel
theorem dX5_power_20 : decode cX5_power 20 = .ok (.ireturn, 1) := by decide +kernel
set_option maxRecDepth 20000 in
theorem ggX5_does_X5_in : GoodIn wsX5_does wsX5_in := goodIn_r _ [6] (by decide +kernel) (by decide +kernel)
set_option maxRecDepth 20000 in
theorem gX5_does_X5_in : GoodIn wsX5_does (va_wsS RX5 75 yX5_in wsX5_in) := goodIn_app (goodIn_of _ (by decide +kernel)) ggX5_does_X5_in
set_option maxRecDepth 20000 in
theorem ggX5_does_X5_noMule : GoodIn wsX5_does wsX5_noMule := goodIn_r _ [10, 11, 3, 4, 5, 6, 39, 40, 41, 42, 43, 44, 45, 46, 47, 48, 49, 50, 51, 52, 53, 54, 55, 56, 57, 58, 59, 60, 61, 62, 63, 64, 65, 66, 67, 68, 69, 70, 71] (by decide +kernel) (by decide +kernel)
set_option maxRecDepth 20000 in
theorem gX5_does_X5_noMule : GoodIn wsX5_does (wsV RX5 151 RX5 yX5_noMule wsX5_noMule) := goodIn_app (goodIn_of _ (by decide +kernel)) ggX5_does_X5_noMule
set_option maxRecDepth 20000 in
theorem ggX5_does_X5_toStone : GoodIn wsX5_does wsX5_toStone := goodIn_r _ [14, 15, 3, 4, 5, 6] (by decide +kernel) (by decide +kernel)
set_option maxRecDepth 20000 in
theorem gX5_does_X5_toStone : GoodIn wsX5_does (va_wsS RX5 119 yX5_toStone wsX5_toStone) := goodIn_app (goodIn_of _ (by decide +kernel)) ggX5_does_X5_toStone
set_option maxRecDepth 20000 in
theorem ggX5_does_X5_forbids : GoodIn wsX5_does wsX5_forbids := goodIn_r _ [19, 20, 21, 22, 23, 24, 12, 13, 5, 14, 15, 3, 4, 6, 25, 26, 27, 28, 11, 29, 30, 31, 39, 40, 41, 42, 43, 44, 45, 46, 47, 48, 49, 50, 51, 52, 53, 54, 55, 56, 57, 58, 59, 60, 61, 62, 63, 64, 65, 66, 67, 68, 69, 70, 71] (by decide +kernel) (by decide +kernel)
set_option maxRecDepth 20000 in
theorem gX5_does_X5_forbids : GoodIn wsX5_does (wsV RX5 130 RX5 yX5_forbids wsX5_forbids) := goodIn_app (goodIn_of _ (by decide +kernel)) ggX5_does_X5_forbids
set_option maxRecDepth 20000 in
theorem ggX5_does_X5_go : GoodIn wsX5_does wsX5_go := goodIn_r _ [35, 16, 17, 18, 5, 19, 20, 21, 22, 23, 24, 12, 13, 14, 15, 3, 4, 6, 25, 26, 27, 28, 11, 29, 30, 31, 36, 37, 38, 39, 40, 41, 42, 43, 44, 45, 46, 47, 48, 49, 50, 51, 52, 53, 54, 55, 56, 57, 58, 59, 60, 61, 62, 63, 64, 65, 66, 67, 68, 69, 70, 71] (by decide +kernel) (by decide +kernel)
set_option maxRecDepth 20000 in
theorem gX5_does_X5_go : GoodIn wsX5_does (wsV RX5 171 RX5 yX5_go wsX5_go) := goodIn_app (goodIn_of _ (by decide +kernel)) ggX5_does_X5_go
theorem dX5_does_0 : decode cX5_does 0 = .ok (.iload_n 1, 1) := by decide +kernel
theorem dX5_does_1 : decode cX5_does 1 = .ok (.bipush 10, 2) := by decide +kernel
theorem dX5_does_3 : decode cX5_does 3 = .ok (.idiv, 1) := by decide +kernel
theorem dX5_does_4 : decode cX5_does 4 = .ok (.istore_n 2, 1) := by decide +kernel
theorem dX5_does_5 : decode cX5_does 5 = .ok (.iload_n 1, 1) := by decide +kernel
theorem dX5_does_6 : decode cX5_does 6 = .ok (.bipush 10, 2) := by decide +kernel
theorem dX5_does_8 : decode cX5_does 8 = .ok (.irem, 1) := by decide +kernel
theorem dX5_does_9 : decode cX5_does 9 = .ok (.istore_n 3, 1) := by decide +kernel
theorem dX5_does_10 : decode cX5_does 10 = .ok (.iload_n 1, 1) := by decide +kernel
theorem dX5_does_11 : decode cX5_does 11 = .ok (.ifCond .ne 16, 3) := by decide +kernel
theorem dX5_does_14 : decode cX5_does 14 = .ok (.aload_n 0, 1) := by decide +kernel
theorem dX5_does_15 : decode cX5_does 15 = .ok (.getfield 34, 3) := by decide +kernel
theorem dX5_does_18 : decode cX5_does 18 = .ok (.bipush 15, 2) := by decide +kernel
theorem dX5_does_20 : decode cX5_does 20 = .ok (.dup2, 1) := by decide +kernel
theorem dX5_does_21 : decode cX5_does 21 = .ok (.iaload, 1) := by decide +kernel
theorem dX5_does_22 : decode cX5_does 22 = .ok (.iconst 1, 1) := by decide +kernel
theorem dX5_does_23 : decode cX5_does 23 = .ok (.iadd, 1) := by decide +kernel
theorem dX5_does_24 : decode cX5_does 24 = .ok (.iastore, 1) := by decide +kernel
theorem dX5_does_25 : decode cX5_does 25 = .ok (.iconst 1, 1) := by decide +kernel
theorem dX5_does_26 : decode cX5_does 26 = .ok (.ireturn, 1) := by decide +kernel
theorem dX5_does_27 : decode cX5_does 27 = .ok (.iload_n 2, 1) := by decide +kernel
theorem dX5_does_28 : decode cX5_does 28 = .ok (.i2l, 1) := by decide +kernel
theorem dX5_does_29 : decode cX5_does 29 = .ok (.lconst 1, 1) := by decide +kernel
theorem dX5_does_30 : decode cX5_does 30 = .ok (.ldc2_w 185, 3) := by decide +kernel
theorem dX5_does_33 : decode cX5_does 33 = .ok (.invokestatic 75, 3) := by decide +kernel
theorem dX5_does_36 : decode cX5_does 36 = .ok (.ifCond .eq 76, 3) := by decide +kernel
theorem dX5_does_39 : decode cX5_does 39 = .ok (.aload_n 0, 1) := by decide +kernel
theorem dX5_does_40 : decode cX5_does 40 = .ok (.iload_n 2, 1) := by decide +kernel
theorem dX5_does_41 : decode cX5_does 41 = .ok (.iconst 1, 1) := by decide +kernel
theorem dX5_does_42 : decode cX5_does 42 = .ok (.isub, 1) := by decide +kernel
theorem dX5_does_43 : decode cX5_does 43 = .ok (.invokevirtual 151, 3) := by decide +kernel
theorem dX5_does_46 : decode cX5_does 46 = .ok (.ifCond .ne 43, 3) := by decide +kernel
theorem dX5_does_49 : decode cX5_does 49 = .ok (.iload_n 3, 1) := by decide +kernel
theorem dX5_does_50 : decode cX5_does 50 = .ok (.iconst 2, 1) := by decide +kernel
theorem dX5_does_51 : decode cX5_does 51 = .ok (.if_icmp .ge 38, 3) := by decide +kernel
theorem dX5_does_54 : decode cX5_does 54 = .ok (.aload_n 0, 1) := by decide +kernel
theorem dX5_does_55 : decode cX5_does 55 = .ok (.getfield 34, 3) := by decide +kernel
theorem dX5_does_58 : decode cX5_does 58 = .ok (.iload_n 2, 1) := by decide +kernel
theorem dX5_does_59 : decode cX5_does 59 = .ok (.iconst 1, 1) := by decide +kernel
theorem dX5_does_60 : decode cX5_does 60 = .ok (.isub, 1) := by decide +kernel
theorem dX5_does_61 : decode cX5_does 61 = .ok (.iload_n 3, 1) := by decide +kernel
theorem dX5_does_62 : decode cX5_does 62 = .ok (.invokestatic 119, 3) := by decide +kernel
theorem dX5_does_65 : decode cX5_does 65 = .ok (.bipush (-9), 2) := by decide +kernel
theorem dX5_does_67 : decode cX5_does 67 = .ok (.if_icmp .eq 22, 3) := by decide +kernel
theorem dX5_does_70 : decode cX5_does 70 = .ok (.aload_n 0, 1) := by decide +kernel
theorem dX5_does_71 : decode cX5_does 71 = .ok (.aload_n 0, 1) := by decide +kernel
theorem dX5_does_72 : decode cX5_does 72 = .ok (.getfield 34, 3) := by decide +kernel
theorem dX5_does_75 : decode cX5_does 75 = .ok (.iload_n 2, 1) := by decide +kernel
theorem dX5_does_76 : decode cX5_does 76 = .ok (.iconst 1, 1) := by decide +kernel
theorem dX5_does_77 : decode cX5_does 77 = .ok (.isub, 1) := by decide +kernel
theorem dX5_does_78 : decode cX5_does 78 = .ok (.iload_n 3, 1) := by decide +kernel
theorem dX5_does_79 : decode cX5_does 79 = .ok (.invokevirtual 130, 3) := by decide +kernel
theorem dX5_does_82 : decode cX5_does 82 = .ok (.ifCond .ne 7, 3) := by decide +kernel
theorem dX5_does_85 : decode cX5_does 85 = .ok (.iconst 1, 1) := by decide +kernel
theorem dX5_does_86 : decode cX5_does 86 = .ok (.goto 4, 3) := by decide +kernel
theorem dX5_does_89 : decode cX5_does 89 = .ok (.iconst 0, 1) := by decide +kernel
theorem dX5_does_90 : decode cX5_does 90 = .ok (.istore 4, 2) := by decide +kernel
theorem dX5_does_92 : decode cX5_does 92 = .ok (.iload 4, 2) := by decide +kernel
theorem dX5_does_94 : decode cX5_does 94 = .ok (.ifCond .eq 15, 3) := by decide +kernel
theorem dX5_does_97 : decode cX5_does 97 = .ok (.aload_n 0, 1) := by decide +kernel
theorem dX5_does_98 : decode cX5_does 98 = .ok (.aload_n 0, 1) := by decide +kernel
theorem dX5_does_99 : decode cX5_does 99 = .ok (.getfield 34, 3) := by decide +kernel
theorem dX5_does_102 : decode cX5_does 102 = .ok (.iload_n 2, 1) := by decide +kernel
theorem dX5_does_103 : decode cX5_does 103 = .ok (.iconst 1, 1) := by decide +kernel
theorem dX5_does_104 : decode cX5_does 104 = .ok (.isub, 1) := by decide +kernel
theorem dX5_does_105 : decode cX5_does 105 = .ok (.iload_n 3, 1) := by decide +kernel
theorem dX5_does_106 : decode cX5_does 106 = .ok (.invokevirtual 171, 3) := by decide +kernel
theorem dX5_does_109 : decode cX5_does 109 = .ok (.iload 4, 2) := by decide +kernel
theorem dX5_does_111 : decode cX5_does 111 = .ok (.ireturn, 1) := by decide +kernel
theorem dX5_does_112 : decode cX5_does 112 = .ok (.aload_n 0, 1) := by decide +kernel
theorem dX5_does_113 : decode cX5_does 113 = .ok (.iload_n 3, 1) := by decide +kernel
theorem dX5_does_114 : decode cX5_does 114 = .ok (.invokevirtual 151, 3) := by decide +kernel
theorem dX5_does_117 : decode cX5_does 117 = .ok (.ifCond .eq 5, 3) := by decide +kernel
theorem dX5_does_120 : decode cX5_does 120 = .ok (.iconst 0, 1) := by decide +kernel
theorem dX5_does_121 : decode cX5_does 121 = .ok (.ireturn, 1) := by decide +kernel
theorem dX5_does_122 : decode cX5_does 122 = .ok (.iload_n 2, 1) := by decide +kernel
theorem dX5_does_123 : decode cX5_does 123 = .ok (.bipush 6, 2) := by decide +kernel
theorem dX5_does_125 : decode cX5_does 125 = .ok (.if_icmp .ne 26, 3) := by decide +kernel
theorem dX5_does_128 : decode cX5_does 128 = .ok (.aload_n 0, 1) := by decide +kernel
theorem dX5_does_129 : decode cX5_does 129 = .ok (.getfield 34, 3) := by decide +kernel
theorem dX5_does_132 : decode cX5_does 132 = .ok (.iconst 5, 1) := by decide +kernel
theorem dX5_does_133 : decode cX5_does 133 = .ok (.iload_n 3, 1) := by decide +kernel
theorem dX5_does_134 : decode cX5_does 134 = .ok (.iadd, 1) := by decide +kernel
theorem dX5_does_135 : decode cX5_does 135 = .ok (.iaload, 1) := by decide +kernel
theorem dX5_does_136 : decode cX5_does 136 = .ok (.iconst 3, 1) := by decide +kernel
theorem dX5_does_137 : decode cX5_does 137 = .ok (.if_icmp .eq 14, 3) := by decide +kernel
theorem dX5_does_140 : decode cX5_does 140 = .ok (.aload_n 0, 1) := by decide +kernel
theorem dX5_does_141 : decode cX5_does 141 = .ok (.getfield 34, 3) := by decide +kernel
theorem dX5_does_144 : decode cX5_does 144 = .ok (.iconst 5, 1) := by decide +kernel
theorem dX5_does_145 : decode cX5_does 145 = .ok (.iload_n 3, 1) := by decide +kernel
theorem dX5_does_146 : decode cX5_does 146 = .ok (.iadd, 1) := by decide +kernel
theorem dX5_does_147 : decode cX5_does 147 = .ok (.iconst 3, 1) := by decide +kernel
theorem dX5_does_148 : decode cX5_does 148 = .ok (.iastore, 1) := by decide +kernel
theorem dX5_does_149 : decode cX5_does 149 = .ok (.iconst 1, 1) := by decide +kernel
theorem dX5_does_150 : decode cX5_does 150 = .ok (.ireturn, 1) := by decide +kernel
theorem dX5_does_151 : decode cX5_does 151 = .ok (.iload_n 2, 1) := by decide +kernel
theorem dX5_does_152 : decode cX5_does 152 = .ok (.bipush 7, 2) := by decide +kernel
theorem dX5_does_154 : decode cX5_does 154 = .ok (.if_icmp .ne 19, 3) := by decide +kernel
theorem dX5_does_157 : decode cX5_does 157 = .ok (.aload_n 0, 1) := by decide +kernel
theorem dX5_does_158 : decode cX5_does 158 = .ok (.getfield 34, 3) := by decide +kernel
theorem dX5_does_161 : decode cX5_does 161 = .ok (.bipush 10, 2) := by decide +kernel
theorem dX5_does_163 : decode cX5_does 163 = .ok (.iload_n 3, 1) := by decide +kernel
theorem dX5_does_164 : decode cX5_does 164 = .ok (.iadd, 1) := by decide +kernel
theorem dX5_does_165 : decode cX5_does 165 = .ok (.iaload, 1) := by decide +kernel
theorem dX5_does_166 : decode cX5_does 166 = .ok (.ifCond .eq 7, 3) := by decide +kernel
theorem dX5_does_169 : decode cX5_does 169 = .ok (.iconst 1, 1) := by decide +kernel
theorem dX5_does_170 : decode cX5_does 170 = .ok (.goto 4, 3) := by decide +kernel
theorem dX5_does_173 : decode cX5_does 173 = .ok (.iconst 0, 1) := by decide +kernel
theorem dX5_does_174 : decode cX5_does 174 = .ok (.istore 4, 2) := by decide +kernel
theorem dX5_does_176 : decode cX5_does 176 = .ok (.aload_n 0, 1) := by decide +kernel
theorem dX5_does_177 : decode cX5_does 177 = .ok (.getfield 34, 3) := by decide +kernel
theorem dX5_does_180 : decode cX5_does 180 = .ok (.bipush 10, 2) := by decide +kernel
theorem dX5_does_182 : decode cX5_does 182 = .ok (.iload_n 3, 1) := by decide +kernel
theorem dX5_does_183 : decode cX5_does 183 = .ok (.iadd, 1) := by decide +kernel
theorem dX5_does_184 : decode cX5_does 184 = .ok (.iload 4, 2) := by decide +kernel
theorem dX5_does_186 : decode cX5_does 186 = .ok (.ifCond .eq 7, 3) := by decide +kernel
theorem dX5_does_189 : decode cX5_does 189 = .ok (.iconst 0, 1) := by decide +kernel
theorem dX5_does_190 : decode cX5_does 190 = .ok (.goto 12, 3) := by decide +kernel
theorem dX5_does_193 : decode cX5_does 193 = .ok (.aload_n 0, 1) := by decide +kernel
theorem dX5_does_194 : decode cX5_does 194 = .ok (.getfield 34, 3) := by decide +kernel
theorem dX5_does_197 : decode cX5_does 197 = .ok (.bipush 10, 2) := by decide +kernel
theorem dX5_does_199 : decode cX5_does 199 = .ok (.iload_n 3, 1) := by decide +kernel
theorem dX5_does_200 : decode cX5_does 200 = .ok (.iadd, 1) := by decide +kernel
theorem dX5_does_201 : decode cX5_does 201 = .ok (.iaload, 1) := by decide +kernel
theorem dX5_does_202 : decode cX5_does 202 = .ok (.iastore, 1) := by decide +kernel
theorem dX5_does_203 : decode cX5_does 203 = .ok (.iload 4, 2) := by decide +kernel
theorem dX5_does_205 : decode cX5_does 205 = .ok (.ireturn, 1) := by decide +kernel
set_option maxRecDepth 20000 in
theorem ggX5_judge_X5_in : GoodIn wsX5_judge wsX5_in := goodIn_r _ [6] (by decide +kernel) (by decide +kernel)
set_option maxRecDepth 20000 in
theorem gX5_judge_X5_in : GoodIn wsX5_judge (va_wsS RX5 75 yX5_in wsX5_in) := goodIn_app (goodIn_of _ (by decide +kernel)) ggX5_judge_X5_in
set_option maxRecDepth 20000 in
theorem ggX5_judge_X5_power : GoodIn wsX5_judge wsX5_power := goodIn_r _ [9] (by decide +kernel) (by decide +kernel)
set_option maxRecDepth 20000 in
theorem gX5_judge_X5_power : GoodIn wsX5_judge (va_wsS RX5 189 yX5_power wsX5_power) := goodIn_app (goodIn_of _ (by decide +kernel)) ggX5_judge_X5_power
set_option maxRecDepth 20000 in
theorem ggX5_judge_X5_begin : GoodIn wsX5_judge wsX5_begin := goodIn_r _ [13, 14, 15, 53, 54, 55, 56, 57, 58, 59, 60, 61, 62, 63, 64, 65, 66, 67, 68, 69, 70, 71, 72, 73, 74, 75, 76, 77, 78, 79, 80, 81, 82, 83, 84, 85] (by decide +kernel) (by decide +kernel)
set_option maxRecDepth 20000 in
theorem gX5_judge_X5_begin : GoodIn wsX5_judge (wsV RX5 175 RX5 yX5_begin wsX5_begin) := goodIn_app (goodIn_of _ (by decide +kernel)) ggX5_judge_X5_begin
set_option maxRecDepth 20000 in
theorem ggX5_judge_X5_does : GoodIn wsX5_judge wsX5_does := goodIn_r _ [19, 14, 20, 3, 4, 5, 6, 21, 22, 23, 24, 25, 26, 27, 28, 29, 30, 31, 32, 33, 34, 35, 36, 37, 38, 39, 40, 41, 42, 43, 44, 45, 46, 47, 48, 49, 50, 51, 52, 53, 54, 55, 56, 57, 58, 59, 60, 61, 62, 63, 64, 65, 66, 67, 68, 69, 70, 71, 72, 73, 74, 75, 76, 77, 78, 79, 80, 81, 82, 83, 84, 85] (by decide +kernel) (by decide +kernel)
set_option maxRecDepth 20000 in
theorem gX5_judge_X5_does : GoodIn wsX5_judge (wsV RX5 192 RX5 yX5_does wsX5_does) := goodIn_app (goodIn_of _ (by decide +kernel)) ggX5_judge_X5_does
theorem dX5_judge_0 : decode cX5_judge 0 = .ok (.aload_n 0, 1) := by decide +kernel
theorem dX5_judge_1 : decode cX5_judge 1 = .ok (.iconst 0, 1) := by decide +kernel
theorem dX5_judge_2 : decode cX5_judge 2 = .ok (.putfield 68, 3) := by decide +kernel
theorem dX5_judge_5 : decode cX5_judge 5 = .ok (.iload_n 1, 1) := by decide +kernel
theorem dX5_judge_6 : decode cX5_judge 6 = .ok (.i2l, 1) := by decide +kernel
theorem dX5_judge_7 : decode cX5_judge 7 = .ok (.lconst 1, 1) := by decide +kernel
theorem dX5_judge_8 : decode cX5_judge 8 = .ok (.ldc2_w 187, 3) := by decide +kernel
theorem dX5_judge_11 : decode cX5_judge 11 = .ok (.invokestatic 75, 3) := by decide +kernel
theorem dX5_judge_14 : decode cX5_judge 14 = .ok (.ifCond .eq 21, 3) := by decide +kernel
theorem dX5_judge_17 : decode cX5_judge 17 = .ok (.iload_n 2, 1) := by decide +kernel
theorem dX5_judge_18 : decode cX5_judge 18 = .ok (.i2l, 1) := by decide +kernel
theorem dX5_judge_19 : decode cX5_judge 19 = .ok (.lconst 0, 1) := by decide +kernel
theorem dX5_judge_20 : decode cX5_judge 20 = .ok (.bipush 100, 2) := by decide +kernel
theorem dX5_judge_22 : decode cX5_judge 22 = .ok (.iload_n 1, 1) := by decide +kernel
theorem dX5_judge_23 : decode cX5_judge 23 = .ok (.invokestatic 189, 3) := by decide +kernel
theorem dX5_judge_26 : decode cX5_judge 26 = .ok (.iconst 1, 1) := by decide +kernel
theorem dX5_judge_27 : decode cX5_judge 27 = .ok (.isub, 1) := by decide +kernel
theorem dX5_judge_28 : decode cX5_judge 28 = .ok (.i2l, 1) := by decide +kernel
theorem dX5_judge_29 : decode cX5_judge 29 = .ok (.invokestatic 75, 3) := by decide +kernel
theorem dX5_judge_32 : decode cX5_judge 32 = .ok (.ifCond .ne 6, 3) := by decide +kernel
theorem dX5_judge_35 : decode cX5_judge 35 = .ok (.bipush (-2), 2) := by decide +kernel
theorem dX5_judge_37 : decode cX5_judge 37 = .ok (.ireturn, 1) := by decide +kernel
theorem dX5_judge_38 : decode cX5_judge 38 = .ok (.aload_n 0, 1) := by decide +kernel
theorem dX5_judge_39 : decode cX5_judge 39 = .ok (.invokevirtual 175, 3) := by decide +kernel
theorem dX5_judge_42 : decode cX5_judge 42 = .ok (.iconst 0, 1) := by decide +kernel
theorem dX5_judge_43 : decode cX5_judge 43 = .ok (.istore_n 3, 1) := by decide +kernel
theorem dX5_judge_44 : decode cX5_judge 44 = .ok (.iload_n 3, 1) := by decide +kernel
theorem dX5_judge_45 : decode cX5_judge 45 = .ok (.iload_n 1, 1) := by decide +kernel
theorem dX5_judge_46 : decode cX5_judge 46 = .ok (.if_icmp .ge 33, 3) := by decide +kernel
theorem dX5_judge_49 : decode cX5_judge 49 = .ok (.aload_n 0, 1) := by decide +kernel
theorem dX5_judge_50 : decode cX5_judge 50 = .ok (.iload_n 2, 1) := by decide +kernel
theorem dX5_judge_51 : decode cX5_judge 51 = .ok (.bipush 100, 2) := by decide +kernel
theorem dX5_judge_53 : decode cX5_judge 53 = .ok (.iload_n 1, 1) := by decide +kernel
theorem dX5_judge_54 : decode cX5_judge 54 = .ok (.iconst 1, 1) := by decide +kernel
theorem dX5_judge_55 : decode cX5_judge 55 = .ok (.isub, 1) := by decide +kernel
theorem dX5_judge_56 : decode cX5_judge 56 = .ok (.iload_n 3, 1) := by decide +kernel
theorem dX5_judge_57 : decode cX5_judge 57 = .ok (.isub, 1) := by decide +kernel
theorem dX5_judge_58 : decode cX5_judge 58 = .ok (.invokestatic 189, 3) := by decide +kernel
theorem dX5_judge_61 : decode cX5_judge 61 = .ok (.idiv, 1) := by decide +kernel
theorem dX5_judge_62 : decode cX5_judge 62 = .ok (.bipush 100, 2) := by decide +kernel
theorem dX5_judge_64 : decode cX5_judge 64 = .ok (.irem, 1) := by decide +kernel
theorem dX5_judge_65 : decode cX5_judge 65 = .ok (.invokevirtual 192, 3) := by decide +kernel
theorem dX5_judge_68 : decode cX5_judge 68 = .ok (.ifCond .ne 5, 3) := by decide +kernel
theorem dX5_judge_71 : decode cX5_judge 71 = .ok (.iload_n 3, 1) := by decide +kernel
theorem dX5_judge_72 : decode cX5_judge 72 = .ok (.ireturn, 1) := by decide +kernel
theorem dX5_judge_73 : decode cX5_judge 73 = .ok (.iinc 3 1, 3) := by decide +kernel
theorem dX5_judge_76 : decode cX5_judge 76 = .ok (.goto (-32), 3) := by decide +kernel
theorem dX5_judge_79 : decode cX5_judge 79 = .ok (.bipush (-9), 2) := by decide +kernel
theorem dX5_judge_81 : decode cX5_judge 81 = .ok (.ireturn, 1) := by decide +kernel
theorem dX5_ways_0 : decode cX5_ways 0 = .ok (.iconst 1, 1) := by decide +kernel
theorem dX5_ways_1 : decode cX5_ways 1 = .ok (.istore_n 1, 1) := by decide +kernel
theorem dX5_ways_2 : decode cX5_ways 2 = .ok (.iconst 2, 1) := by decide +kernel
theorem dX5_ways_3 : decode cX5_ways 3 = .ok (.istore_n 2, 1) := by decide +kernel
theorem dX5_ways_4 : decode cX5_ways 4 = .ok (.iload_n 2, 1) := by decide +kernel
theorem dX5_ways_5 : decode cX5_ways 5 = .ok (.iload_n 0, 1) := by decide +kernel
theorem dX5_ways_6 : decode cX5_ways 6 = .ok (.if_icmp .gt 13, 3) := by decide +kernel
theorem dX5_ways_9 : decode cX5_ways 9 = .ok (.iload_n 1, 1) := by decide +kernel
theorem dX5_ways_10 : decode cX5_ways 10 = .ok (.iload_n 2, 1) := by decide +kernel
theorem dX5_ways_11 : decode cX5_ways 11 = .ok (.imul, 1) := by decide +kernel
theorem dX5_ways_12 : decode cX5_ways 12 = .ok (.istore_n 1, 1) := by decide +kernel
theorem dX5_ways_13 : decode cX5_ways 13 = .ok (.iinc 2 1, 3) := by decide +kernel
theorem dX5_ways_16 : decode cX5_ways 16 = .ok (.goto (-12), 3) := by decide +kernel
theorem dX5_ways_19 : decode cX5_ways 19 = .ok (.iload_n 1, 1) := by decide +kernel
theorem dX5_ways_20 : decode cX5_ways 20 = .ok (.ireturn, 1) := by decide +kernel
theorem dX5_divisor_0 : decode cX5_divisor 0 = .ok (.iload_n 0, 1) := by decide +kernel
theorem dX5_divisor_1 : decode cX5_divisor 1 = .ok (.ifCond .ge 8, 3) := by decide +kernel
theorem dX5_divisor_4 : decode cX5_divisor 4 = .ok (.iload_n 0, 1) := by decide +kernel
theorem dX5_divisor_5 : decode cX5_divisor 5 = .ok (.ineg, 1) := by decide +kernel
theorem dX5_divisor_6 : decode cX5_divisor 6 = .ok (.goto 4, 3) := by decide +kernel
theorem dX5_divisor_9 : decode cX5_divisor 9 = .ok (.iload_n 0, 1) := by decide +kernel
theorem dX5_divisor_10 : decode cX5_divisor 10 = .ok (.istore_n 2, 1) := by decide +kernel
theorem dX5_divisor_11 : decode cX5_divisor 11 = .ok (.iload_n 1, 1) := by decide +kernel
theorem dX5_divisor_12 : decode cX5_divisor 12 = .ok (.istore_n 3, 1) := by decide +kernel
theorem dX5_divisor_13 : decode cX5_divisor 13 = .ok (.iload_n 3, 1) := by decide +kernel
theorem dX5_divisor_14 : decode cX5_divisor 14 = .ok (.ifCond .eq 16, 3) := by decide +kernel
theorem dX5_divisor_17 : decode cX5_divisor 17 = .ok (.iload_n 2, 1) := by decide +kernel
theorem dX5_divisor_18 : decode cX5_divisor 18 = .ok (.iload_n 3, 1) := by decide +kernel
theorem dX5_divisor_19 : decode cX5_divisor 19 = .ok (.irem, 1) := by decide +kernel
theorem dX5_divisor_20 : decode cX5_divisor 20 = .ok (.istore 4, 2) := by decide +kernel
theorem dX5_divisor_22 : decode cX5_divisor 22 = .ok (.iload_n 3, 1) := by decide +kernel
theorem dX5_divisor_23 : decode cX5_divisor 23 = .ok (.istore_n 2, 1) := by decide +kernel
theorem dX5_divisor_24 : decode cX5_divisor 24 = .ok (.iload 4, 2) := by decide +kernel
theorem dX5_divisor_26 : decode cX5_divisor 26 = .ok (.istore_n 3, 1) := by decide +kernel
theorem dX5_divisor_27 : decode cX5_divisor 27 = .ok (.goto (-14), 3) := by decide +kernel
theorem dX5_divisor_30 : decode cX5_divisor 30 = .ok (.iload_n 2, 1) := by decide +kernel
theorem dX5_divisor_31 : decode cX5_divisor 31 = .ok (.ireturn, 1) := by decide +kernel
set_option maxRecDepth 20000 in
theorem ggX5_fraction_X5_divisor : GoodIn wsX5_fraction wsX5_divisor := goodIn_r _ [4] (by decide +kernel) (by decide +kernel)
set_option maxRecDepth 20000 in
theorem gX5_fraction_X5_divisor : GoodIn wsX5_fraction (va_wsS RX5 195 yX5_divisor wsX5_divisor) := goodIn_app (goodIn_of _ (by decide +kernel)) ggX5_fraction_X5_divisor
theorem dX5_fraction_0 : decode cX5_fraction 0 = .ok (.iload_n 0, 1) := by decide +kernel
theorem dX5_fraction_1 : decode cX5_fraction 1 = .ok (.iload_n 1, 1) := by decide +kernel
theorem dX5_fraction_2 : decode cX5_fraction 2 = .ok (.invokestatic 195, 3) := by decide +kernel
theorem dX5_fraction_5 : decode cX5_fraction 5 = .ok (.istore_n 3, 1) := by decide +kernel
theorem dX5_fraction_6 : decode cX5_fraction 6 = .ok (.iload_n 2, 1) := by decide +kernel
theorem dX5_fraction_7 : decode cX5_fraction 7 = .ok (.ifCond .eq 9, 3) := by decide +kernel
theorem dX5_fraction_10 : decode cX5_fraction 10 = .ok (.iload_n 0, 1) := by decide +kernel
theorem dX5_fraction_11 : decode cX5_fraction 11 = .ok (.iload_n 3, 1) := by decide +kernel
theorem dX5_fraction_12 : decode cX5_fraction 12 = .ok (.idiv, 1) := by decide +kernel
theorem dX5_fraction_13 : decode cX5_fraction 13 = .ok (.goto 6, 3) := by decide +kernel
theorem dX5_fraction_16 : decode cX5_fraction 16 = .ok (.iload_n 1, 1) := by decide +kernel
theorem dX5_fraction_17 : decode cX5_fraction 17 = .ok (.iload_n 3, 1) := by decide +kernel
theorem dX5_fraction_18 : decode cX5_fraction 18 = .ok (.idiv, 1) := by decide +kernel
theorem dX5_fraction_19 : decode cX5_fraction 19 = .ok (.ireturn, 1) := by decide +kernel
set_option maxRecDepth 20000 in
theorem ggX5_barredBy_X5_toStone : GoodIn wsX5_barredBy wsX5_toStone := goodIn_r _ [6, 7, 8, 9, 5, 10] (by decide +kernel) (by decide +kernel)
set_option maxRecDepth 20000 in
theorem gX5_barredBy_X5_toStone : GoodIn wsX5_barredBy (va_wsS RX5 119 yX5_toStone wsX5_toStone) := goodIn_app (goodIn_of _ (by decide +kernel)) ggX5_barredBy_X5_toStone
set_option maxRecDepth 20000 in
theorem ggX5_barredBy_X5_forbids : GoodIn wsX5_barredBy wsX5_forbids := goodIn_r _ [14, 15, 16, 17, 18, 19, 3, 4, 5, 6, 7, 8, 9, 10, 20, 21, 22, 23, 1, 24, 25, 26, 27, 28, 29, 30, 31, 32, 33, 34, 35, 36, 37, 38, 39, 40, 41, 42, 43, 44, 45, 46, 47, 48, 49, 50, 51, 52, 53, 54, 55, 56, 57, 58, 59] (by decide +kernel) (by decide +kernel)
set_option maxRecDepth 20000 in
theorem gX5_barredBy_X5_forbids : GoodIn wsX5_barredBy (wsV RX5 130 RX5 yX5_forbids wsX5_forbids) := goodIn_app (goodIn_of _ (by decide +kernel)) ggX5_barredBy_X5_forbids
theorem dX5_barredBy_0 : decode cX5_barredBy 0 = .ok (.iconst 0, 1) := by decide +kernel
theorem dX5_barredBy_1 : decode cX5_barredBy 1 = .ok (.istore_n 2, 1) := by decide +kernel
theorem dX5_barredBy_2 : decode cX5_barredBy 2 = .ok (.iconst 0, 1) := by decide +kernel
theorem dX5_barredBy_3 : decode cX5_barredBy 3 = .ok (.istore_n 3, 1) := by decide +kernel
theorem dX5_barredBy_4 : decode cX5_barredBy 4 = .ok (.iload_n 3, 1) := by decide +kernel
theorem dX5_barredBy_5 : decode cX5_barredBy 5 = .ok (.aload_n 0, 1) := by decide +kernel
theorem dX5_barredBy_6 : decode cX5_barredBy 6 = .ok (.getfield 72, 3) := by decide +kernel
theorem dX5_barredBy_9 : decode cX5_barredBy 9 = .ok (.if_icmp .ge 63, 3) := by decide +kernel
theorem dX5_barredBy_12 : decode cX5_barredBy 12 = .ok (.iconst 0, 1) := by decide +kernel
theorem dX5_barredBy_13 : decode cX5_barredBy 13 = .ok (.istore 4, 2) := by decide +kernel
theorem dX5_barredBy_15 : decode cX5_barredBy 15 = .ok (.iload 4, 2) := by decide +kernel
theorem dX5_barredBy_17 : decode cX5_barredBy 17 = .ok (.iconst 2, 1) := by decide +kernel
theorem dX5_barredBy_18 : decode cX5_barredBy 18 = .ok (.if_icmp .ge 48, 3) := by decide +kernel
theorem dX5_barredBy_21 : decode cX5_barredBy 21 = .ok (.iload_n 2, 1) := by decide +kernel
theorem dX5_barredBy_22 : decode cX5_barredBy 22 = .ok (.aload_n 0, 1) := by decide +kernel
theorem dX5_barredBy_23 : decode cX5_barredBy 23 = .ok (.getfield 31, 3) := by decide +kernel
theorem dX5_barredBy_26 : decode cX5_barredBy 26 = .ok (.iload_n 3, 1) := by decide +kernel
theorem dX5_barredBy_27 : decode cX5_barredBy 27 = .ok (.iload 4, 2) := by decide +kernel
theorem dX5_barredBy_29 : decode cX5_barredBy 29 = .ok (.invokestatic 119, 3) := by decide +kernel
theorem dX5_barredBy_32 : decode cX5_barredBy 32 = .ok (.bipush (-9), 2) := by decide +kernel
theorem dX5_barredBy_34 : decode cX5_barredBy 34 = .ok (.if_icmp .eq 23, 3) := by decide +kernel
theorem dX5_barredBy_37 : decode cX5_barredBy 37 = .ok (.aload_n 0, 1) := by decide +kernel
theorem dX5_barredBy_38 : decode cX5_barredBy 38 = .ok (.aload_n 0, 1) := by decide +kernel
theorem dX5_barredBy_39 : decode cX5_barredBy 39 = .ok (.getfield 31, 3) := by decide +kernel
theorem dX5_barredBy_42 : decode cX5_barredBy 42 = .ok (.iload_n 3, 1) := by decide +kernel
theorem dX5_barredBy_43 : decode cX5_barredBy 43 = .ok (.iload 4, 2) := by decide +kernel
theorem dX5_barredBy_45 : decode cX5_barredBy 45 = .ok (.invokevirtual 130, 3) := by decide +kernel
theorem dX5_barredBy_48 : decode cX5_barredBy 48 = .ok (.iload_n 1, 1) := by decide +kernel
theorem dX5_barredBy_49 : decode cX5_barredBy 49 = .ok (.iand, 1) := by decide +kernel
theorem dX5_barredBy_50 : decode cX5_barredBy 50 = .ok (.ifCond .eq 7, 3) := by decide +kernel
theorem dX5_barredBy_53 : decode cX5_barredBy 53 = .ok (.iconst 1, 1) := by decide +kernel
theorem dX5_barredBy_54 : decode cX5_barredBy 54 = .ok (.goto 4, 3) := by decide +kernel
theorem dX5_barredBy_57 : decode cX5_barredBy 57 = .ok (.iconst 0, 1) := by decide +kernel
theorem dX5_barredBy_58 : decode cX5_barredBy 58 = .ok (.iadd, 1) := by decide +kernel
theorem dX5_barredBy_59 : decode cX5_barredBy 59 = .ok (.istore_n 2, 1) := by decide +kernel
theorem dX5_barredBy_60 : decode cX5_barredBy 60 = .ok (.iinc 4 1, 3) := by decide +kernel
theorem dX5_barredBy_63 : decode cX5_barredBy 63 = .ok (.goto (-48), 3) := by decide +kernel
theorem dX5_barredBy_66 : decode cX5_barredBy 66 = .ok (.iinc 3 1, 3) := by decide +kernel
theorem dX5_barredBy_69 : decode cX5_barredBy 69 = .ok (.goto (-65), 3) := by decide +kernel
theorem dX5_barredBy_72 : decode cX5_barredBy 72 = .ok (.iload_n 2, 1) := by decide +kernel
theorem dX5_barredBy_73 : decode cX5_barredBy 73 = .ok (.ireturn, 1) := by decide +kernel
set_option maxRecDepth 20000 in
theorem ggX5_share_X5_noArticle : GoodIn wsX5_share wsX5_noArticle := goodIn_r _ [8, 2, 9, 10, 7, 11, 52, 53, 54, 55, 56, 57, 58, 59, 60, 61, 62, 63, 64, 65, 66, 67, 68, 69, 70, 71, 72, 73, 74, 75, 76, 77, 78, 79, 80, 81, 82, 83, 84] (by decide +kernel) (by decide +kernel)
set_option maxRecDepth 20000 in
theorem gX5_share_X5_noArticle : GoodIn wsX5_share (wsV RX5 144 RX5 yX5_noArticle wsX5_noArticle) := goodIn_app (goodIn_of _ (by decide +kernel)) ggX5_share_X5_noArticle
set_option maxRecDepth 20000 in
theorem ggX5_share_X5_barredBy : GoodIn wsX5_share wsX5_barredBy := goodIn_r _ [15, 16, 17, 18, 19, 7, 20, 21, 9, 10, 11, 22, 23, 24, 25, 2, 26, 27, 28, 29, 30, 31, 32, 33, 34, 35, 36, 52, 53, 54, 55, 56, 57, 58, 59, 60, 61, 62, 63, 64, 65, 66, 67, 68, 69, 70, 71, 72, 73, 74, 75, 76, 77, 78, 79, 80, 81, 82, 83, 84] (by decide +kernel) (by decide +kernel)
set_option maxRecDepth 20000 in
theorem gX5_share_X5_barredBy : GoodIn wsX5_share (wsV RX5 198 RX5 yX5_barredBy wsX5_barredBy) := goodIn_app (goodIn_of _ (by decide +kernel)) ggX5_share_X5_barredBy
set_option maxRecDepth 20000 in
theorem ggX5_share_X5_has : GoodIn wsX5_share wsX5_has := goodIn_r _ [39] (by decide +kernel) (by decide +kernel)
set_option maxRecDepth 20000 in
theorem gX5_share_X5_has : GoodIn wsX5_share (va_wsS RX5 140 yX5_has wsX5_has) := goodIn_app (goodIn_of _ (by decide +kernel)) ggX5_share_X5_has
set_option maxRecDepth 20000 in
theorem ggX5_share_X5_many : GoodIn wsX5_share wsX5_many := goodIn_r _ [42] (by decide +kernel) (by decide +kernel)
set_option maxRecDepth 20000 in
theorem gX5_share_X5_many : GoodIn wsX5_share (va_wsS RX5 161 yX5_many wsX5_many) := goodIn_app (goodIn_of _ (by decide +kernel)) ggX5_share_X5_many
set_option maxRecDepth 20000 in
theorem ggX5_share_X5_ways : GoodIn wsX5_share wsX5_ways := goodIn_r _ [45] (by decide +kernel) (by decide +kernel)
set_option maxRecDepth 20000 in
theorem gX5_share_X5_ways : GoodIn wsX5_share (va_wsS RX5 201 yX5_ways wsX5_ways) := goodIn_app (goodIn_of _ (by decide +kernel)) ggX5_share_X5_ways
set_option maxRecDepth 20000 in
theorem ggX5_share_X5_fraction : GoodIn wsX5_share wsX5_fraction := goodIn_r _ [48, 49, 50, 7, 51] (by decide +kernel) (by decide +kernel)
set_option maxRecDepth 20000 in
theorem gX5_share_X5_fraction : GoodIn wsX5_share (va_wsS RX5 204 yX5_fraction wsX5_fraction) := goodIn_app (goodIn_of _ (by decide +kernel)) ggX5_share_X5_fraction
theorem dX5_share_0 : decode cX5_share 0 = .ok (.aload_n 0, 1) := by decide +kernel
theorem dX5_share_1 : decode cX5_share 1 = .ok (.iconst 0, 1) := by decide +kernel
theorem dX5_share_2 : decode cX5_share 2 = .ok (.putfield 68, 3) := by decide +kernel
theorem dX5_share_5 : decode cX5_share 5 = .ok (.aload_n 0, 1) := by decide +kernel
theorem dX5_share_6 : decode cX5_share 6 = .ok (.iload_n 1, 1) := by decide +kernel
theorem dX5_share_7 : decode cX5_share 7 = .ok (.invokevirtual 144, 3) := by decide +kernel
theorem dX5_share_10 : decode cX5_share 10 = .ok (.ifCond .eq 5, 3) := by decide +kernel
theorem dX5_share_13 : decode cX5_share 13 = .ok (.iconst (-1), 1) := by decide +kernel
theorem dX5_share_14 : decode cX5_share 14 = .ok (.ireturn, 1) := by decide +kernel
theorem dX5_share_15 : decode cX5_share 15 = .ok (.iconst 0, 1) := by decide +kernel
theorem dX5_share_16 : decode cX5_share 16 = .ok (.istore_n 3, 1) := by decide +kernel
theorem dX5_share_17 : decode cX5_share 17 = .ok (.iload_n 3, 1) := by decide +kernel
theorem dX5_share_18 : decode cX5_share 18 = .ok (.iconst 1, 1) := by decide +kernel
theorem dX5_share_19 : decode cX5_share 19 = .ok (.aload_n 0, 1) := by decide +kernel
theorem dX5_share_20 : decode cX5_share 20 = .ok (.getfield 79, 3) := by decide +kernel
theorem dX5_share_23 : decode cX5_share 23 = .ok (.ishl, 1) := by decide +kernel
theorem dX5_share_24 : decode cX5_share 24 = .ok (.if_icmp .ge 20, 3) := by decide +kernel
theorem dX5_share_27 : decode cX5_share 27 = .ok (.aload_n 0, 1) := by decide +kernel
theorem dX5_share_28 : decode cX5_share 28 = .ok (.getfield 65, 3) := by decide +kernel
theorem dX5_share_31 : decode cX5_share 31 = .ok (.iload_n 3, 1) := by decide +kernel
theorem dX5_share_32 : decode cX5_share 32 = .ok (.aload_n 0, 1) := by decide +kernel
theorem dX5_share_33 : decode cX5_share 33 = .ok (.iload_n 3, 1) := by decide +kernel
theorem dX5_share_34 : decode cX5_share 34 = .ok (.invokevirtual 198, 3) := by decide +kernel
theorem dX5_share_37 : decode cX5_share 37 = .ok (.iastore, 1) := by decide +kernel
theorem dX5_share_38 : decode cX5_share 38 = .ok (.iinc 3 1, 3) := by decide +kernel
theorem dX5_share_41 : decode cX5_share 41 = .ok (.goto (-24), 3) := by decide +kernel
theorem dX5_share_44 : decode cX5_share 44 = .ok (.iconst 0, 1) := by decide +kernel
theorem dX5_share_45 : decode cX5_share 45 = .ok (.istore_n 3, 1) := by decide +kernel
theorem dX5_share_46 : decode cX5_share 46 = .ok (.iconst 0, 1) := by decide +kernel
theorem dX5_share_47 : decode cX5_share 47 = .ok (.istore 4, 2) := by decide +kernel
theorem dX5_share_49 : decode cX5_share 49 = .ok (.iload 4, 2) := by decide +kernel
theorem dX5_share_51 : decode cX5_share 51 = .ok (.iconst 1, 1) := by decide +kernel
theorem dX5_share_52 : decode cX5_share 52 = .ok (.aload_n 0, 1) := by decide +kernel
theorem dX5_share_53 : decode cX5_share 53 = .ok (.getfield 79, 3) := by decide +kernel
theorem dX5_share_56 : decode cX5_share 56 = .ok (.ishl, 1) := by decide +kernel
theorem dX5_share_57 : decode cX5_share 57 = .ok (.if_icmp .ge 66, 3) := by decide +kernel
theorem dX5_share_60 : decode cX5_share 60 = .ok (.iload 4, 2) := by decide +kernel
theorem dX5_share_62 : decode cX5_share 62 = .ok (.iload_n 1, 1) := by decide +kernel
theorem dX5_share_63 : decode cX5_share 63 = .ok (.invokestatic 140, 3) := by decide +kernel
theorem dX5_share_66 : decode cX5_share 66 = .ok (.ifCond .ne 51, 3) := by decide +kernel
theorem dX5_share_69 : decode cX5_share 69 = .ok (.iload 4, 2) := by decide +kernel
theorem dX5_share_71 : decode cX5_share 71 = .ok (.invokestatic 161, 3) := by decide +kernel
theorem dX5_share_74 : decode cX5_share 74 = .ok (.istore 5, 2) := by decide +kernel
theorem dX5_share_76 : decode cX5_share 76 = .ok (.iload_n 3, 1) := by decide +kernel
theorem dX5_share_77 : decode cX5_share 77 = .ok (.iload 5, 2) := by decide +kernel
theorem dX5_share_79 : decode cX5_share 79 = .ok (.invokestatic 201, 3) := by decide +kernel
theorem dX5_share_82 : decode cX5_share 82 = .ok (.aload_n 0, 1) := by decide +kernel
theorem dX5_share_83 : decode cX5_share 83 = .ok (.getfield 79, 3) := by decide +kernel
theorem dX5_share_86 : decode cX5_share 86 = .ok (.iconst 1, 1) := by decide +kernel
theorem dX5_share_87 : decode cX5_share 87 = .ok (.isub, 1) := by decide +kernel
theorem dX5_share_88 : decode cX5_share 88 = .ok (.iload 5, 2) := by decide +kernel
theorem dX5_share_90 : decode cX5_share 90 = .ok (.isub, 1) := by decide +kernel
theorem dX5_share_91 : decode cX5_share 91 = .ok (.invokestatic 201, 3) := by decide +kernel
theorem dX5_share_94 : decode cX5_share 94 = .ok (.imul, 1) := by decide +kernel
theorem dX5_share_95 : decode cX5_share 95 = .ok (.aload_n 0, 1) := by decide +kernel
theorem dX5_share_96 : decode cX5_share 96 = .ok (.getfield 65, 3) := by decide +kernel
theorem dX5_share_99 : decode cX5_share 99 = .ok (.iload 4, 2) := by decide +kernel
theorem dX5_share_101 : decode cX5_share 101 = .ok (.iconst 1, 1) := by decide +kernel
theorem dX5_share_102 : decode cX5_share 102 = .ok (.iload_n 1, 1) := by decide +kernel
theorem dX5_share_103 : decode cX5_share 103 = .ok (.ishl, 1) := by decide +kernel
theorem dX5_share_104 : decode cX5_share 104 = .ok (.ior, 1) := by decide +kernel
theorem dX5_share_105 : decode cX5_share 105 = .ok (.iaload, 1) := by decide +kernel
theorem dX5_share_106 : decode cX5_share 106 = .ok (.aload_n 0, 1) := by decide +kernel
theorem dX5_share_107 : decode cX5_share 107 = .ok (.getfield 65, 3) := by decide +kernel
theorem dX5_share_110 : decode cX5_share 110 = .ok (.iload 4, 2) := by decide +kernel
theorem dX5_share_112 : decode cX5_share 112 = .ok (.iaload, 1) := by decide +kernel
theorem dX5_share_113 : decode cX5_share 113 = .ok (.isub, 1) := by decide +kernel
theorem dX5_share_114 : decode cX5_share 114 = .ok (.imul, 1) := by decide +kernel
theorem dX5_share_115 : decode cX5_share 115 = .ok (.iadd, 1) := by decide +kernel
theorem dX5_share_116 : decode cX5_share 116 = .ok (.istore_n 3, 1) := by decide +kernel
theorem dX5_share_117 : decode cX5_share 117 = .ok (.iinc 4 1, 3) := by decide +kernel
theorem dX5_share_120 : decode cX5_share 120 = .ok (.goto (-71), 3) := by decide +kernel
theorem dX5_share_123 : decode cX5_share 123 = .ok (.iload_n 3, 1) := by decide +kernel
theorem dX5_share_124 : decode cX5_share 124 = .ok (.aload_n 0, 1) := by decide +kernel
theorem dX5_share_125 : decode cX5_share 125 = .ok (.getfield 79, 3) := by decide +kernel
theorem dX5_share_128 : decode cX5_share 128 = .ok (.invokestatic 201, 3) := by decide +kernel
theorem dX5_share_131 : decode cX5_share 131 = .ok (.iload_n 2, 1) := by decide +kernel
theorem dX5_share_132 : decode cX5_share 132 = .ok (.invokestatic 204, 3) := by decide +kernel
theorem dX5_share_135 : decode cX5_share 135 = .ok (.ireturn, 1) := by decide +kernel
set_option maxRecDepth 20000 in
theorem ggX5_see_X5_in : GoodIn wsX5_see wsX5_in := goodIn_r _ [13] (by decide +kernel) (by decide +kernel)
set_option maxRecDepth 20000 in
theorem gX5_see_X5_in : GoodIn wsX5_see (va_wsS RX5 75 yX5_in wsX5_in) := goodIn_app (goodIn_of _ (by decide +kernel)) ggX5_see_X5_in
theorem dX5_see_0 : decode cX5_see 0 = .ok (.aload_n 0, 1) := by decide +kernel
theorem dX5_see_1 : decode cX5_see 1 = .ok (.iconst 0, 1) := by decide +kernel
theorem dX5_see_2 : decode cX5_see 2 = .ok (.putfield 68, 3) := by decide +kernel
theorem dX5_see_5 : decode cX5_see 5 = .ok (.iload_n 1, 1) := by decide +kernel
theorem dX5_see_6 : decode cX5_see 6 = .ok (.i2l, 1) := by decide +kernel
theorem dX5_see_7 : decode cX5_see 7 = .ok (.lconst 0, 1) := by decide +kernel
theorem dX5_see_8 : decode cX5_see 8 = .ok (.ldc2_w 117, 3) := by decide +kernel
theorem dX5_see_11 : decode cX5_see 11 = .ok (.invokestatic 75, 3) := by decide +kernel
theorem dX5_see_14 : decode cX5_see 14 = .ok (.ifCond .ne 5, 3) := by decide +kernel
theorem dX5_see_17 : decode cX5_see 17 = .ok (.iconst (-1), 1) := by decide +kernel
theorem dX5_see_18 : decode cX5_see 18 = .ok (.ireturn, 1) := by decide +kernel
theorem dX5_see_19 : decode cX5_see 19 = .ok (.iload_n 2, 1) := by decide +kernel
theorem dX5_see_20 : decode cX5_see 20 = .ok (.i2l, 1) := by decide +kernel
theorem dX5_see_21 : decode cX5_see 21 = .ok (.lconst 0, 1) := by decide +kernel
theorem dX5_see_22 : decode cX5_see 22 = .ok (.ldc2_w 208, 3) := by decide +kernel
theorem dX5_see_25 : decode cX5_see 25 = .ok (.invokestatic 75, 3) := by decide +kernel
theorem dX5_see_28 : decode cX5_see 28 = .ok (.ifCond .eq 37, 3) := by decide +kernel
theorem dX5_see_31 : decode cX5_see 31 = .ok (.iload_n 3, 1) := by decide +kernel
theorem dX5_see_32 : decode cX5_see 32 = .ok (.i2l, 1) := by decide +kernel
theorem dX5_see_33 : decode cX5_see 33 = .ok (.lconst 0, 1) := by decide +kernel
theorem dX5_see_34 : decode cX5_see 34 = .ok (.ldc2_w 117, 3) := by decide +kernel
theorem dX5_see_37 : decode cX5_see 37 = .ok (.invokestatic 75, 3) := by decide +kernel
theorem dX5_see_40 : decode cX5_see 40 = .ok (.ifCond .eq 25, 3) := by decide +kernel
theorem dX5_see_43 : decode cX5_see 43 = .ok (.iload 4, 2) := by decide +kernel
theorem dX5_see_45 : decode cX5_see 45 = .ok (.i2l, 1) := by decide +kernel
theorem dX5_see_46 : decode cX5_see 46 = .ok (.lconst 0, 1) := by decide +kernel
theorem dX5_see_47 : decode cX5_see 47 = .ok (.lconst 1, 1) := by decide +kernel
theorem dX5_see_48 : decode cX5_see 48 = .ok (.invokestatic 75, 3) := by decide +kernel
theorem dX5_see_51 : decode cX5_see 51 = .ok (.ifCond .eq 14, 3) := by decide +kernel
theorem dX5_see_54 : decode cX5_see 54 = .ok (.iload 5, 2) := by decide +kernel
theorem dX5_see_56 : decode cX5_see 56 = .ok (.i2l, 1) := by decide +kernel
theorem dX5_see_57 : decode cX5_see 57 = .ok (.lconst 0, 1) := by decide +kernel
theorem dX5_see_58 : decode cX5_see 58 = .ok (.lconst 1, 1) := by decide +kernel
theorem dX5_see_59 : decode cX5_see 59 = .ok (.invokestatic 75, 3) := by decide +kernel
theorem dX5_see_62 : decode cX5_see 62 = .ok (.ifCond .ne 6, 3) := by decide +kernel
theorem dX5_see_65 : decode cX5_see 65 = .ok (.bipush (-2), 2) := by decide +kernel
theorem dX5_see_67 : decode cX5_see 67 = .ok (.ireturn, 1) := by decide +kernel
theorem dX5_see_68 : decode cX5_see 68 = .ok (.aload_n 0, 1) := by decide +kernel
theorem dX5_see_69 : decode cX5_see 69 = .ok (.getfield 137, 3) := by decide +kernel
theorem dX5_see_72 : decode cX5_see 72 = .ok (.bipush 6, 2) := by decide +kernel
theorem dX5_see_74 : decode cX5_see 74 = .ok (.if_icmp .ne 6, 3) := by decide +kernel
theorem dX5_see_77 : decode cX5_see 77 = .ok (.bipush (-4), 2) := by decide +kernel
theorem dX5_see_79 : decode cX5_see 79 = .ok (.ireturn, 1) := by decide +kernel
theorem dX5_see_80 : decode cX5_see 80 = .ok (.aload_n 0, 1) := by decide +kernel
theorem dX5_see_81 : decode cX5_see 81 = .ok (.getfield 47, 3) := by decide +kernel
theorem dX5_see_84 : decode cX5_see 84 = .ok (.aload_n 0, 1) := by decide +kernel
theorem dX5_see_85 : decode cX5_see 85 = .ok (.getfield 137, 3) := by decide +kernel
theorem dX5_see_88 : decode cX5_see 88 = .ok (.iload_n 1, 1) := by decide +kernel
theorem dX5_see_89 : decode cX5_see 89 = .ok (.iastore, 1) := by decide +kernel
theorem dX5_see_90 : decode cX5_see 90 = .ok (.aload_n 0, 1) := by decide +kernel
theorem dX5_see_91 : decode cX5_see 91 = .ok (.getfield 50, 3) := by decide +kernel
theorem dX5_see_94 : decode cX5_see 94 = .ok (.aload_n 0, 1) := by decide +kernel
theorem dX5_see_95 : decode cX5_see 95 = .ok (.getfield 137, 3) := by decide +kernel
theorem dX5_see_98 : decode cX5_see 98 = .ok (.iload_n 2, 1) := by decide +kernel
theorem dX5_see_99 : decode cX5_see 99 = .ok (.iastore, 1) := by decide +kernel
theorem dX5_see_100 : decode cX5_see 100 = .ok (.aload_n 0, 1) := by decide +kernel
theorem dX5_see_101 : decode cX5_see 101 = .ok (.getfield 53, 3) := by decide +kernel
theorem dX5_see_104 : decode cX5_see 104 = .ok (.aload_n 0, 1) := by decide +kernel
theorem dX5_see_105 : decode cX5_see 105 = .ok (.getfield 137, 3) := by decide +kernel
theorem dX5_see_108 : decode cX5_see 108 = .ok (.iload_n 3, 1) := by decide +kernel
theorem dX5_see_109 : decode cX5_see 109 = .ok (.iastore, 1) := by decide +kernel
theorem dX5_see_110 : decode cX5_see 110 = .ok (.aload_n 0, 1) := by decide +kernel
theorem dX5_see_111 : decode cX5_see 111 = .ok (.getfield 56, 3) := by decide +kernel
theorem dX5_see_114 : decode cX5_see 114 = .ok (.aload_n 0, 1) := by decide +kernel
theorem dX5_see_115 : decode cX5_see 115 = .ok (.getfield 137, 3) := by decide +kernel
theorem dX5_see_118 : decode cX5_see 118 = .ok (.iload 4, 2) := by decide +kernel
theorem dX5_see_120 : decode cX5_see 120 = .ok (.iastore, 1) := by decide +kernel
theorem dX5_see_121 : decode cX5_see 121 = .ok (.aload_n 0, 1) := by decide +kernel
theorem dX5_see_122 : decode cX5_see 122 = .ok (.getfield 59, 3) := by decide +kernel
theorem dX5_see_125 : decode cX5_see 125 = .ok (.aload_n 0, 1) := by decide +kernel
theorem dX5_see_126 : decode cX5_see 126 = .ok (.getfield 137, 3) := by decide +kernel
theorem dX5_see_129 : decode cX5_see 129 = .ok (.iload 5, 2) := by decide +kernel
theorem dX5_see_131 : decode cX5_see 131 = .ok (.iastore, 1) := by decide +kernel
theorem dX5_see_132 : decode cX5_see 132 = .ok (.aload_n 0, 1) := by decide +kernel
theorem dX5_see_133 : decode cX5_see 133 = .ok (.dup, 1) := by decide +kernel
theorem dX5_see_134 : decode cX5_see 134 = .ok (.getfield 137, 3) := by decide +kernel
theorem dX5_see_137 : decode cX5_see 137 = .ok (.iconst 1, 1) := by decide +kernel
theorem dX5_see_138 : decode cX5_see 138 = .ok (.iadd, 1) := by decide +kernel
theorem dX5_see_139 : decode cX5_see 139 = .ok (.putfield 137, 3) := by decide +kernel
theorem dX5_see_142 : decode cX5_see 142 = .ok (.aload_n 0, 1) := by decide +kernel
theorem dX5_see_143 : decode cX5_see 143 = .ok (.getfield 137, 3) := by decide +kernel
theorem dX5_see_146 : decode cX5_see 146 = .ok (.ireturn, 1) := by decide +kernel
theorem dX5_unsee_0 : decode cX5_unsee 0 = .ok (.aload_n 0, 1) := by decide +kernel
theorem dX5_unsee_1 : decode cX5_unsee 1 = .ok (.iconst 0, 1) := by decide +kernel
theorem dX5_unsee_2 : decode cX5_unsee 2 = .ok (.putfield 68, 3) := by decide +kernel
theorem dX5_unsee_5 : decode cX5_unsee 5 = .ok (.aload_n 0, 1) := by decide +kernel
theorem dX5_unsee_6 : decode cX5_unsee 6 = .ok (.getfield 137, 3) := by decide +kernel
theorem dX5_unsee_9 : decode cX5_unsee 9 = .ok (.istore_n 1, 1) := by decide +kernel
theorem dX5_unsee_10 : decode cX5_unsee 10 = .ok (.aload_n 0, 1) := by decide +kernel
theorem dX5_unsee_11 : decode cX5_unsee 11 = .ok (.iconst 0, 1) := by decide +kernel
theorem dX5_unsee_12 : decode cX5_unsee 12 = .ok (.putfield 137, 3) := by decide +kernel
theorem dX5_unsee_15 : decode cX5_unsee 15 = .ok (.iload_n 1, 1) := by decide +kernel
theorem dX5_unsee_16 : decode cX5_unsee 16 = .ok (.ireturn, 1) := by decide +kernel
set_option maxRecDepth 20000 in
theorem ggX5_findMay_X5_isBarred : GoodIn wsX5_findMay wsX5_isBarred := goodIn_r _ [12] (by decide +kernel) (by decide +kernel)
set_option maxRecDepth 20000 in
theorem gX5_findMay_X5_isBarred : GoodIn wsX5_findMay (va_wsS RX5 126 yX5_isBarred wsX5_isBarred) := goodIn_app (goodIn_of _ (by decide +kernel)) ggX5_findMay_X5_isBarred
theorem dX5_findMay_0 : decode cX5_findMay 0 = .ok (.aload_n 0, 1) := by decide +kernel
theorem dX5_findMay_1 : decode cX5_findMay 1 = .ok (.iconst 0, 1) := by decide +kernel
theorem dX5_findMay_2 : decode cX5_findMay 2 = .ok (.putfield 210, 3) := by decide +kernel
theorem dX5_findMay_5 : decode cX5_findMay 5 = .ok (.aload_n 0, 1) := by decide +kernel
theorem dX5_findMay_6 : decode cX5_findMay 6 = .ok (.bipush (-9), 2) := by decide +kernel
theorem dX5_findMay_8 : decode cX5_findMay 8 = .ok (.putfield 213, 3) := by decide +kernel
theorem dX5_findMay_11 : decode cX5_findMay 11 = .ok (.iconst 0, 1) := by decide +kernel
theorem dX5_findMay_12 : decode cX5_findMay 12 = .ok (.istore_n 2, 1) := by decide +kernel
theorem dX5_findMay_13 : decode cX5_findMay 13 = .ok (.iload_n 2, 1) := by decide +kernel
theorem dX5_findMay_14 : decode cX5_findMay 14 = .ok (.bipush 30, 2) := by decide +kernel
theorem dX5_findMay_16 : decode cX5_findMay 16 = .ok (.if_icmp .ge 147, 3) := by decide +kernel
theorem dX5_findMay_19 : decode cX5_findMay 19 = .ok (.iconst 1, 1) := by decide +kernel
theorem dX5_findMay_20 : decode cX5_findMay 20 = .ok (.istore_n 3, 1) := by decide +kernel
theorem dX5_findMay_21 : decode cX5_findMay 21 = .ok (.iconst 0, 1) := by decide +kernel
theorem dX5_findMay_22 : decode cX5_findMay 22 = .ok (.istore 4, 2) := by decide +kernel
theorem dX5_findMay_24 : decode cX5_findMay 24 = .ok (.iload 4, 2) := by decide +kernel
theorem dX5_findMay_26 : decode cX5_findMay 26 = .ok (.aload_n 0, 1) := by decide +kernel
theorem dX5_findMay_27 : decode cX5_findMay 27 = .ok (.getfield 137, 3) := by decide +kernel
theorem dX5_findMay_30 : decode cX5_findMay 30 = .ok (.if_icmp .ge 86, 3) := by decide +kernel
theorem dX5_findMay_33 : decode cX5_findMay 33 = .ok (.iload_n 2, 1) := by decide +kernel
theorem dX5_findMay_34 : decode cX5_findMay 34 = .ok (.bipush 10, 2) := by decide +kernel
theorem dX5_findMay_36 : decode cX5_findMay 36 = .ok (.idiv, 1) := by decide +kernel
theorem dX5_findMay_37 : decode cX5_findMay 37 = .ok (.iload_n 2, 1) := by decide +kernel
theorem dX5_findMay_38 : decode cX5_findMay 38 = .ok (.bipush 10, 2) := by decide +kernel
theorem dX5_findMay_40 : decode cX5_findMay 40 = .ok (.irem, 1) := by decide +kernel
theorem dX5_findMay_41 : decode cX5_findMay 41 = .ok (.aload_n 0, 1) := by decide +kernel
theorem dX5_findMay_42 : decode cX5_findMay 42 = .ok (.getfield 50, 3) := by decide +kernel
theorem dX5_findMay_45 : decode cX5_findMay 45 = .ok (.iload 4, 2) := by decide +kernel
theorem dX5_findMay_47 : decode cX5_findMay 47 = .ok (.iaload, 1) := by decide +kernel
theorem dX5_findMay_48 : decode cX5_findMay 48 = .ok (.aload_n 0, 1) := by decide +kernel
theorem dX5_findMay_49 : decode cX5_findMay 49 = .ok (.getfield 53, 3) := by decide +kernel
theorem dX5_findMay_52 : decode cX5_findMay 52 = .ok (.iload 4, 2) := by decide +kernel
theorem dX5_findMay_54 : decode cX5_findMay 54 = .ok (.iaload, 1) := by decide +kernel
theorem dX5_findMay_55 : decode cX5_findMay 55 = .ok (.aload_n 0, 1) := by decide +kernel
theorem dX5_findMay_56 : decode cX5_findMay 56 = .ok (.getfield 56, 3) := by decide +kernel
theorem dX5_findMay_59 : decode cX5_findMay 59 = .ok (.iload 4, 2) := by decide +kernel
theorem dX5_findMay_61 : decode cX5_findMay 61 = .ok (.iaload, 1) := by decide +kernel
theorem dX5_findMay_62 : decode cX5_findMay 62 = .ok (.iconst 0, 1) := by decide +kernel
theorem dX5_findMay_63 : decode cX5_findMay 63 = .ok (.invokestatic 126, 3) := by decide +kernel
theorem dX5_findMay_66 : decode cX5_findMay 66 = .ok (.istore 5, 2) := by decide +kernel
theorem dX5_findMay_68 : decode cX5_findMay 68 = .ok (.iload_n 3, 1) := by decide +kernel
theorem dX5_findMay_69 : decode cX5_findMay 69 = .ok (.ifCond .eq 39, 3) := by decide +kernel
theorem dX5_findMay_72 : decode cX5_findMay 72 = .ok (.aload_n 0, 1) := by decide +kernel
theorem dX5_findMay_73 : decode cX5_findMay 73 = .ok (.getfield 47, 3) := by decide +kernel
theorem dX5_findMay_76 : decode cX5_findMay 76 = .ok (.iload 4, 2) := by decide +kernel
theorem dX5_findMay_78 : decode cX5_findMay 78 = .ok (.iaload, 1) := by decide +kernel
theorem dX5_findMay_79 : decode cX5_findMay 79 = .ok (.iload_n 1, 1) := by decide +kernel
theorem dX5_findMay_80 : decode cX5_findMay 80 = .ok (.if_icmp .ne 24, 3) := by decide +kernel
theorem dX5_findMay_83 : decode cX5_findMay 83 = .ok (.iload 5, 2) := by decide +kernel
theorem dX5_findMay_85 : decode cX5_findMay 85 = .ok (.aload_n 0, 1) := by decide +kernel
theorem dX5_findMay_86 : decode cX5_findMay 86 = .ok (.getfield 59, 3) := by decide +kernel
theorem dX5_findMay_89 : decode cX5_findMay 89 = .ok (.iload 4, 2) := by decide +kernel
theorem dX5_findMay_91 : decode cX5_findMay 91 = .ok (.iaload, 1) := by decide +kernel
theorem dX5_findMay_92 : decode cX5_findMay 92 = .ok (.iconst 1, 1) := by decide +kernel
theorem dX5_findMay_93 : decode cX5_findMay 93 = .ok (.if_icmp .ne 7, 3) := by decide +kernel
theorem dX5_findMay_96 : decode cX5_findMay 96 = .ok (.iconst 1, 1) := by decide +kernel
theorem dX5_findMay_97 : decode cX5_findMay 97 = .ok (.goto 4, 3) := by decide +kernel
theorem dX5_findMay_100 : decode cX5_findMay 100 = .ok (.iconst 0, 1) := by decide +kernel
theorem dX5_findMay_101 : decode cX5_findMay 101 = .ok (.if_icmp .ne 7, 3) := by decide +kernel
theorem dX5_findMay_104 : decode cX5_findMay 104 = .ok (.iconst 1, 1) := by decide +kernel
theorem dX5_findMay_105 : decode cX5_findMay 105 = .ok (.goto 4, 3) := by decide +kernel
theorem dX5_findMay_108 : decode cX5_findMay 108 = .ok (.iconst 0, 1) := by decide +kernel
theorem dX5_findMay_109 : decode cX5_findMay 109 = .ok (.istore_n 3, 1) := by decide +kernel
theorem dX5_findMay_110 : decode cX5_findMay 110 = .ok (.iinc 4 1, 3) := by decide +kernel
theorem dX5_findMay_113 : decode cX5_findMay 113 = .ok (.goto (-89), 3) := by decide +kernel
theorem dX5_findMay_116 : decode cX5_findMay 116 = .ok (.aload_n 0, 1) := by decide +kernel
theorem dX5_findMay_117 : decode cX5_findMay 117 = .ok (.iload_n 3, 1) := by decide +kernel
theorem dX5_findMay_118 : decode cX5_findMay 118 = .ok (.ifCond .eq 14, 3) := by decide +kernel
theorem dX5_findMay_121 : decode cX5_findMay 121 = .ok (.aload_n 0, 1) := by decide +kernel
theorem dX5_findMay_122 : decode cX5_findMay 122 = .ok (.getfield 210, 3) := by decide +kernel
theorem dX5_findMay_125 : decode cX5_findMay 125 = .ok (.ifCond .ne 7, 3) := by decide +kernel
theorem dX5_findMay_128 : decode cX5_findMay 128 = .ok (.iload_n 2, 1) := by decide +kernel
theorem dX5_findMay_129 : decode cX5_findMay 129 = .ok (.goto 7, 3) := by decide +kernel
theorem dX5_findMay_132 : decode cX5_findMay 132 = .ok (.aload_n 0, 1) := by decide +kernel
theorem dX5_findMay_133 : decode cX5_findMay 133 = .ok (.getfield 213, 3) := by decide +kernel
theorem dX5_findMay_136 : decode cX5_findMay 136 = .ok (.putfield 213, 3) := by decide +kernel
theorem dX5_findMay_139 : decode cX5_findMay 139 = .ok (.aload_n 0, 1) := by decide +kernel
theorem dX5_findMay_140 : decode cX5_findMay 140 = .ok (.dup, 1) := by decide +kernel
theorem dX5_findMay_141 : decode cX5_findMay 141 = .ok (.getfield 210, 3) := by decide +kernel
theorem dX5_findMay_144 : decode cX5_findMay 144 = .ok (.iload_n 3, 1) := by decide +kernel
theorem dX5_findMay_145 : decode cX5_findMay 145 = .ok (.ifCond .eq 7, 3) := by decide +kernel
theorem dX5_findMay_148 : decode cX5_findMay 148 = .ok (.iconst 1, 1) := by decide +kernel
theorem dX5_findMay_149 : decode cX5_findMay 149 = .ok (.goto 4, 3) := by decide +kernel
theorem dX5_findMay_152 : decode cX5_findMay 152 = .ok (.iconst 0, 1) := by decide +kernel
theorem dX5_findMay_153 : decode cX5_findMay 153 = .ok (.iadd, 1) := by decide +kernel
theorem dX5_findMay_154 : decode cX5_findMay 154 = .ok (.putfield 210, 3) := by decide +kernel
theorem dX5_findMay_157 : decode cX5_findMay 157 = .ok (.iinc 2 1, 3) := by decide +kernel
theorem dX5_findMay_160 : decode cX5_findMay 160 = .ok (.goto (-147), 3) := by decide +kernel
theorem dX5_findMay_163 : decode cX5_findMay 163 = .ok (.return_, 1) := by decide +kernel
set_option maxRecDepth 20000 in
theorem ggX5_may_X5_in : GoodIn wsX5_may wsX5_in := goodIn_r _ [8] (by decide +kernel) (by decide +kernel)
set_option maxRecDepth 20000 in
theorem gX5_may_X5_in : GoodIn wsX5_may (va_wsS RX5 75 yX5_in wsX5_in) := goodIn_app (goodIn_of _ (by decide +kernel)) ggX5_may_X5_in
set_option maxRecDepth 20000 in
theorem ggX5_may_X5_findMay : GoodIn wsX5_may wsX5_findMay := goodIn_r _ [12, 3, 4, 13, 14, 15, 16, 17, 18, 19, 20, 7, 21, 22, 23, 24, 25, 26, 27, 28, 29, 30, 31, 32, 33, 34, 35, 36, 37, 38, 39, 40, 41, 42, 43, 44, 45, 46, 47, 48, 49, 50, 51, 52, 53, 54] (by decide +kernel) (by decide +kernel)
set_option maxRecDepth 20000 in
theorem gX5_may_X5_findMay : GoodIn wsX5_may (wsV RX5 216 RX5 yX5_findMay wsX5_findMay) := goodIn_app (goodIn_of _ (by decide +kernel)) ggX5_may_X5_findMay
theorem dX5_may_0 : decode cX5_may 0 = .ok (.aload_n 0, 1) := by decide +kernel
theorem dX5_may_1 : decode cX5_may 1 = .ok (.iconst 0, 1) := by decide +kernel
theorem dX5_may_2 : decode cX5_may 2 = .ok (.putfield 68, 3) := by decide +kernel
theorem dX5_may_5 : decode cX5_may 5 = .ok (.iload_n 1, 1) := by decide +kernel
theorem dX5_may_6 : decode cX5_may 6 = .ok (.i2l, 1) := by decide +kernel
theorem dX5_may_7 : decode cX5_may 7 = .ok (.lconst 0, 1) := by decide +kernel
theorem dX5_may_8 : decode cX5_may 8 = .ok (.ldc2_w 117, 3) := by decide +kernel
theorem dX5_may_11 : decode cX5_may 11 = .ok (.invokestatic 75, 3) := by decide +kernel
theorem dX5_may_14 : decode cX5_may 14 = .ok (.ifCond .ne 5, 3) := by decide +kernel
theorem dX5_may_17 : decode cX5_may 17 = .ok (.iconst (-1), 1) := by decide +kernel
theorem dX5_may_18 : decode cX5_may 18 = .ok (.ireturn, 1) := by decide +kernel
theorem dX5_may_19 : decode cX5_may 19 = .ok (.iload_n 2, 1) := by decide +kernel
theorem dX5_may_20 : decode cX5_may 20 = .ok (.i2l, 1) := by decide +kernel
theorem dX5_may_21 : decode cX5_may 21 = .ok (.lconst 0, 1) := by decide +kernel
theorem dX5_may_22 : decode cX5_may 22 = .ok (.lconst 1, 1) := by decide +kernel
theorem dX5_may_23 : decode cX5_may 23 = .ok (.invokestatic 75, 3) := by decide +kernel
theorem dX5_may_26 : decode cX5_may 26 = .ok (.ifCond .ne 6, 3) := by decide +kernel
theorem dX5_may_29 : decode cX5_may 29 = .ok (.bipush (-2), 2) := by decide +kernel
theorem dX5_may_31 : decode cX5_may 31 = .ok (.ireturn, 1) := by decide +kernel
theorem dX5_may_32 : decode cX5_may 32 = .ok (.aload_n 0, 1) := by decide +kernel
theorem dX5_may_33 : decode cX5_may 33 = .ok (.iload_n 1, 1) := by decide +kernel
theorem dX5_may_34 : decode cX5_may 34 = .ok (.invokevirtual 216, 3) := by decide +kernel
theorem dX5_may_37 : decode cX5_may 37 = .ok (.iload_n 2, 1) := by decide +kernel
theorem dX5_may_38 : decode cX5_may 38 = .ok (.ifCond .ne 10, 3) := by decide +kernel
theorem dX5_may_41 : decode cX5_may 41 = .ok (.aload_n 0, 1) := by decide +kernel
theorem dX5_may_42 : decode cX5_may 42 = .ok (.getfield 210, 3) := by decide +kernel
theorem dX5_may_45 : decode cX5_may 45 = .ok (.goto 7, 3) := by decide +kernel
theorem dX5_may_48 : decode cX5_may 48 = .ok (.aload_n 0, 1) := by decide +kernel
theorem dX5_may_49 : decode cX5_may 49 = .ok (.getfield 213, 3) := by decide +kernel
theorem dX5_may_52 : decode cX5_may 52 = .ok (.ireturn, 1) := by decide +kernel
set_option maxRecDepth 20000 in
theorem ggX5_sent_X5_toStone : GoodIn wsX5_sent wsX5_toStone := goodIn_r _ [6, 7, 8, 9, 5, 10] (by decide +kernel) (by decide +kernel)
set_option maxRecDepth 20000 in
theorem gX5_sent_X5_toStone : GoodIn wsX5_sent (va_wsS RX5 119 yX5_toStone wsX5_toStone) := goodIn_app (goodIn_of _ (by decide +kernel)) ggX5_sent_X5_toStone
set_option maxRecDepth 20000 in
theorem ggX5_sent_X5_isBalking : GoodIn wsX5_sent wsX5_isBalking := goodIn_r _ [14, 15, 16, 17, 5, 18, 19, 20, 21, 22, 23, 3, 4, 6, 7, 8, 9, 10, 24, 25, 26, 27, 1, 28, 29, 30, 31, 32, 33, 34, 35, 36, 37, 38, 39, 40, 41, 42, 43, 44, 45, 46, 47, 48, 49, 50, 51, 52, 53, 54, 55, 56, 57, 58, 59, 60, 61, 62, 63, 64, 65, 66, 67] (by decide +kernel) (by decide +kernel)
set_option maxRecDepth 20000 in
theorem gX5_sent_X5_isBalking : GoodIn wsX5_sent (wsV RX5 164 RX5 yX5_isBalking wsX5_isBalking) := goodIn_app (goodIn_of _ (by decide +kernel)) ggX5_sent_X5_isBalking
theorem dX5_sent_0 : decode cX5_sent 0 = .ok (.iconst 0, 1) := by decide +kernel
theorem dX5_sent_1 : decode cX5_sent 1 = .ok (.istore_n 1, 1) := by decide +kernel
theorem dX5_sent_2 : decode cX5_sent 2 = .ok (.iconst 0, 1) := by decide +kernel
theorem dX5_sent_3 : decode cX5_sent 3 = .ok (.istore_n 2, 1) := by decide +kernel
theorem dX5_sent_4 : decode cX5_sent 4 = .ok (.iload_n 2, 1) := by decide +kernel
theorem dX5_sent_5 : decode cX5_sent 5 = .ok (.aload_n 0, 1) := by decide +kernel
theorem dX5_sent_6 : decode cX5_sent 6 = .ok (.getfield 72, 3) := by decide +kernel
theorem dX5_sent_9 : decode cX5_sent 9 = .ok (.if_icmp .ge 48, 3) := by decide +kernel
theorem dX5_sent_12 : decode cX5_sent 12 = .ok (.iload_n 1, 1) := by decide +kernel
theorem dX5_sent_13 : decode cX5_sent 13 = .ok (.aload_n 0, 1) := by decide +kernel
theorem dX5_sent_14 : decode cX5_sent 14 = .ok (.getfield 31, 3) := by decide +kernel
theorem dX5_sent_17 : decode cX5_sent 17 = .ok (.iload_n 2, 1) := by decide +kernel
theorem dX5_sent_18 : decode cX5_sent 18 = .ok (.iconst 1, 1) := by decide +kernel
theorem dX5_sent_19 : decode cX5_sent 19 = .ok (.invokestatic 119, 3) := by decide +kernel
theorem dX5_sent_22 : decode cX5_sent 22 = .ok (.bipush (-9), 2) := by decide +kernel
theorem dX5_sent_24 : decode cX5_sent 24 = .ok (.if_icmp .ne 7, 3) := by decide +kernel
theorem dX5_sent_27 : decode cX5_sent 27 = .ok (.iconst 0, 1) := by decide +kernel
theorem dX5_sent_28 : decode cX5_sent 28 = .ok (.goto 21, 3) := by decide +kernel
theorem dX5_sent_31 : decode cX5_sent 31 = .ok (.aload_n 0, 1) := by decide +kernel
theorem dX5_sent_32 : decode cX5_sent 32 = .ok (.aload_n 0, 1) := by decide +kernel
theorem dX5_sent_33 : decode cX5_sent 33 = .ok (.getfield 31, 3) := by decide +kernel
theorem dX5_sent_36 : decode cX5_sent 36 = .ok (.iload_n 2, 1) := by decide +kernel
theorem dX5_sent_37 : decode cX5_sent 37 = .ok (.iconst 1, 1) := by decide +kernel
theorem dX5_sent_38 : decode cX5_sent 38 = .ok (.invokevirtual 164, 3) := by decide +kernel
theorem dX5_sent_41 : decode cX5_sent 41 = .ok (.ifCond .eq 7, 3) := by decide +kernel
theorem dX5_sent_44 : decode cX5_sent 44 = .ok (.iconst (-1), 1) := by decide +kernel
theorem dX5_sent_45 : decode cX5_sent 45 = .ok (.goto 4, 3) := by decide +kernel
theorem dX5_sent_48 : decode cX5_sent 48 = .ok (.iconst 1, 1) := by decide +kernel
theorem dX5_sent_49 : decode cX5_sent 49 = .ok (.iadd, 1) := by decide +kernel
theorem dX5_sent_50 : decode cX5_sent 50 = .ok (.istore_n 1, 1) := by decide +kernel
theorem dX5_sent_51 : decode cX5_sent 51 = .ok (.iinc 2 1, 3) := by decide +kernel
theorem dX5_sent_54 : decode cX5_sent 54 = .ok (.goto (-50), 3) := by decide +kernel
theorem dX5_sent_57 : decode cX5_sent 57 = .ok (.iload_n 1, 1) := by decide +kernel
theorem dX5_sent_58 : decode cX5_sent 58 = .ok (.ireturn, 1) := by decide +kernel
theorem dX5_gain_0 : decode cX5_gain 0 = .ok (.iload_n 1, 1) := by decide +kernel
theorem dX5_gain_1 : decode cX5_gain 1 = .ok (.ifCond .ne 14, 3) := by decide +kernel
theorem dX5_gain_4 : decode cX5_gain 4 = .ok (.iload_n 2, 1) := by decide +kernel
theorem dX5_gain_5 : decode cX5_gain 5 = .ok (.iconst 1, 1) := by decide +kernel
theorem dX5_gain_6 : decode cX5_gain 6 = .ok (.if_icmp .ne 7, 3) := by decide +kernel
theorem dX5_gain_9 : decode cX5_gain 9 = .ok (.iconst (-1), 1) := by decide +kernel
theorem dX5_gain_10 : decode cX5_gain 10 = .ok (.goto 4, 3) := by decide +kernel
theorem dX5_gain_13 : decode cX5_gain 13 = .ok (.iconst 0, 1) := by decide +kernel
theorem dX5_gain_14 : decode cX5_gain 14 = .ok (.ireturn, 1) := by decide +kernel
theorem dX5_gain_15 : decode cX5_gain 15 = .ok (.iload_n 2, 1) := by decide +kernel
theorem dX5_gain_16 : decode cX5_gain 16 = .ok (.iconst 1, 1) := by decide +kernel
theorem dX5_gain_17 : decode cX5_gain 17 = .ok (.if_icmp .ne 9, 3) := by decide +kernel
theorem dX5_gain_20 : decode cX5_gain 20 = .ok (.iload_n 0, 1) := by decide +kernel
theorem dX5_gain_21 : decode cX5_gain 21 = .ok (.iconst 2, 1) := by decide +kernel
theorem dX5_gain_22 : decode cX5_gain 22 = .ok (.idiv, 1) := by decide +kernel
theorem dX5_gain_23 : decode cX5_gain 23 = .ok (.goto 4, 3) := by decide +kernel
theorem dX5_gain_26 : decode cX5_gain 26 = .ok (.iload_n 0, 1) := by decide +kernel
theorem dX5_gain_27 : decode cX5_gain 27 = .ok (.ireturn, 1) := by decide +kernel
set_option maxRecDepth 20000 in
theorem ggX5_rests_X5_in : GoodIn wsX5_rests wsX5_in := goodIn_r _ [7] (by decide +kernel) (by decide +kernel)
set_option maxRecDepth 20000 in
theorem gX5_rests_X5_in : GoodIn wsX5_rests (va_wsS RX5 75 yX5_in wsX5_in) := goodIn_app (goodIn_of _ (by decide +kernel)) ggX5_rests_X5_in
set_option maxRecDepth 20000 in
theorem ggX5_rests_X5_sent : GoodIn wsX5_rests wsX5_sent := goodIn_r _ [11, 12, 13, 14, 15, 6, 16, 17, 4, 5, 7, 18, 19, 20, 21, 22, 23, 24, 25, 26, 27, 28, 29, 30, 31, 32, 33, 34, 35, 36, 37, 38, 39, 40, 41, 45, 46, 47, 48, 49, 50, 51, 52, 53, 54, 55, 56, 57, 58, 59, 60, 61, 62, 63, 64, 65, 66, 67, 68, 69, 70, 71, 72, 73, 74, 75, 76, 77] (by decide +kernel) (by decide +kernel)
set_option maxRecDepth 20000 in
theorem gX5_rests_X5_sent : GoodIn wsX5_rests (wsV RX5 220 RX5 yX5_sent wsX5_sent) := goodIn_app (goodIn_of _ (by decide +kernel)) ggX5_rests_X5_sent
set_option maxRecDepth 20000 in
theorem ggX5_rests_X5_gain : GoodIn wsX5_rests wsX5_gain := goodIn_r _ [44] (by decide +kernel) (by decide +kernel)
set_option maxRecDepth 20000 in
theorem gX5_rests_X5_gain : GoodIn wsX5_rests (va_wsS RX5 229 yX5_gain wsX5_gain) := goodIn_app (goodIn_of _ (by decide +kernel)) ggX5_rests_X5_gain
theorem dX5_rests_0 : decode cX5_rests 0 = .ok (.aload_n 0, 1) := by decide +kernel
theorem dX5_rests_1 : decode cX5_rests 1 = .ok (.iconst 0, 1) := by decide +kernel
theorem dX5_rests_2 : decode cX5_rests 2 = .ok (.putfield 68, 3) := by decide +kernel
theorem dX5_rests_5 : decode cX5_rests 5 = .ok (.iload_n 1, 1) := by decide +kernel
theorem dX5_rests_6 : decode cX5_rests 6 = .ok (.i2l, 1) := by decide +kernel
theorem dX5_rests_7 : decode cX5_rests 7 = .ok (.lconst 0, 1) := by decide +kernel
theorem dX5_rests_8 : decode cX5_rests 8 = .ok (.lconst 1, 1) := by decide +kernel
theorem dX5_rests_9 : decode cX5_rests 9 = .ok (.invokestatic 75, 3) := by decide +kernel
theorem dX5_rests_12 : decode cX5_rests 12 = .ok (.ifCond .ne 6, 3) := by decide +kernel
theorem dX5_rests_15 : decode cX5_rests 15 = .ok (.bipush (-2), 2) := by decide +kernel
theorem dX5_rests_17 : decode cX5_rests 17 = .ok (.ireturn, 1) := by decide +kernel
theorem dX5_rests_18 : decode cX5_rests 18 = .ok (.aload_n 0, 1) := by decide +kernel
theorem dX5_rests_19 : decode cX5_rests 19 = .ok (.invokevirtual 220, 3) := by decide +kernel
theorem dX5_rests_22 : decode cX5_rests 22 = .ok (.istore_n 2, 1) := by decide +kernel
theorem dX5_rests_23 : decode cX5_rests 23 = .ok (.aload_n 0, 1) := by decide +kernel
theorem dX5_rests_24 : decode cX5_rests 24 = .ok (.iconst 0, 1) := by decide +kernel
theorem dX5_rests_25 : decode cX5_rests 25 = .ok (.putfield 223, 3) := by decide +kernel
theorem dX5_rests_28 : decode cX5_rests 28 = .ok (.aload_n 0, 1) := by decide +kernel
theorem dX5_rests_29 : decode cX5_rests 29 = .ok (.bipush (-9), 2) := by decide +kernel
theorem dX5_rests_31 : decode cX5_rests 31 = .ok (.putfield 226, 3) := by decide +kernel
theorem dX5_rests_34 : decode cX5_rests 34 = .ok (.iconst 0, 1) := by decide +kernel
theorem dX5_rests_35 : decode cX5_rests 35 = .ok (.istore_n 3, 1) := by decide +kernel
theorem dX5_rests_36 : decode cX5_rests 36 = .ok (.iload_n 3, 1) := by decide +kernel
theorem dX5_rests_37 : decode cX5_rests 37 = .ok (.iconst 2, 1) := by decide +kernel
theorem dX5_rests_38 : decode cX5_rests 38 = .ok (.if_icmp .ge 118, 3) := by decide +kernel
theorem dX5_rests_41 : decode cX5_rests 41 = .ok (.iconst 0, 1) := by decide +kernel
theorem dX5_rests_42 : decode cX5_rests 42 = .ok (.istore 4, 2) := by decide +kernel
theorem dX5_rests_44 : decode cX5_rests 44 = .ok (.iload 4, 2) := by decide +kernel
theorem dX5_rests_46 : decode cX5_rests 46 = .ok (.iconst 2, 1) := by decide +kernel
theorem dX5_rests_47 : decode cX5_rests 47 = .ok (.if_icmp .ge 103, 3) := by decide +kernel
theorem dX5_rests_50 : decode cX5_rests 50 = .ok (.iload_n 2, 1) := by decide +kernel
theorem dX5_rests_51 : decode cX5_rests 51 = .ok (.iconst 1, 1) := by decide +kernel
theorem dX5_rests_52 : decode cX5_rests 52 = .ok (.iload_n 3, 1) := by decide +kernel
theorem dX5_rests_53 : decode cX5_rests 53 = .ok (.isub, 1) := by decide +kernel
theorem dX5_rests_54 : decode cX5_rests 54 = .ok (.iload 4, 2) := by decide +kernel
theorem dX5_rests_56 : decode cX5_rests 56 = .ok (.invokestatic 229, 3) := by decide +kernel
theorem dX5_rests_59 : decode cX5_rests 59 = .ok (.iload_n 2, 1) := by decide +kernel
theorem dX5_rests_60 : decode cX5_rests 60 = .ok (.iload_n 3, 1) := by decide +kernel
theorem dX5_rests_61 : decode cX5_rests 61 = .ok (.iload 4, 2) := by decide +kernel
theorem dX5_rests_63 : decode cX5_rests 63 = .ok (.invokestatic 229, 3) := by decide +kernel
theorem dX5_rests_66 : decode cX5_rests 66 = .ok (.if_icmp .gt 26, 3) := by decide +kernel
theorem dX5_rests_69 : decode cX5_rests 69 = .ok (.iload_n 2, 1) := by decide +kernel
theorem dX5_rests_70 : decode cX5_rests 70 = .ok (.iconst 1, 1) := by decide +kernel
theorem dX5_rests_71 : decode cX5_rests 71 = .ok (.iload 4, 2) := by decide +kernel
theorem dX5_rests_73 : decode cX5_rests 73 = .ok (.isub, 1) := by decide +kernel
theorem dX5_rests_74 : decode cX5_rests 74 = .ok (.iload_n 3, 1) := by decide +kernel
theorem dX5_rests_75 : decode cX5_rests 75 = .ok (.invokestatic 229, 3) := by decide +kernel
theorem dX5_rests_78 : decode cX5_rests 78 = .ok (.iload_n 2, 1) := by decide +kernel
theorem dX5_rests_79 : decode cX5_rests 79 = .ok (.iload 4, 2) := by decide +kernel
theorem dX5_rests_81 : decode cX5_rests 81 = .ok (.iload_n 3, 1) := by decide +kernel
theorem dX5_rests_82 : decode cX5_rests 82 = .ok (.invokestatic 229, 3) := by decide +kernel
theorem dX5_rests_85 : decode cX5_rests 85 = .ok (.if_icmp .gt 7, 3) := by decide +kernel
theorem dX5_rests_88 : decode cX5_rests 88 = .ok (.iconst 1, 1) := by decide +kernel
theorem dX5_rests_89 : decode cX5_rests 89 = .ok (.goto 4, 3) := by decide +kernel
theorem dX5_rests_92 : decode cX5_rests 92 = .ok (.iconst 0, 1) := by decide +kernel
theorem dX5_rests_93 : decode cX5_rests 93 = .ok (.istore 5, 2) := by decide +kernel
theorem dX5_rests_95 : decode cX5_rests 95 = .ok (.aload_n 0, 1) := by decide +kernel
theorem dX5_rests_96 : decode cX5_rests 96 = .ok (.iload 5, 2) := by decide +kernel
theorem dX5_rests_98 : decode cX5_rests 98 = .ok (.ifCond .eq 20, 3) := by decide +kernel
theorem dX5_rests_101 : decode cX5_rests 101 = .ok (.aload_n 0, 1) := by decide +kernel
theorem dX5_rests_102 : decode cX5_rests 102 = .ok (.getfield 223, 3) := by decide +kernel
theorem dX5_rests_105 : decode cX5_rests 105 = .ok (.ifCond .ne 13, 3) := by decide +kernel
theorem dX5_rests_108 : decode cX5_rests 108 = .ok (.bipush 10, 2) := by decide +kernel
theorem dX5_rests_110 : decode cX5_rests 110 = .ok (.iload_n 3, 1) := by decide +kernel
theorem dX5_rests_111 : decode cX5_rests 111 = .ok (.imul, 1) := by decide +kernel
theorem dX5_rests_112 : decode cX5_rests 112 = .ok (.iload 4, 2) := by decide +kernel
theorem dX5_rests_114 : decode cX5_rests 114 = .ok (.iadd, 1) := by decide +kernel
theorem dX5_rests_115 : decode cX5_rests 115 = .ok (.goto 7, 3) := by decide +kernel
theorem dX5_rests_118 : decode cX5_rests 118 = .ok (.aload_n 0, 1) := by decide +kernel
theorem dX5_rests_119 : decode cX5_rests 119 = .ok (.getfield 226, 3) := by decide +kernel
theorem dX5_rests_122 : decode cX5_rests 122 = .ok (.putfield 226, 3) := by decide +kernel
theorem dX5_rests_125 : decode cX5_rests 125 = .ok (.aload_n 0, 1) := by decide +kernel
theorem dX5_rests_126 : decode cX5_rests 126 = .ok (.dup, 1) := by decide +kernel
theorem dX5_rests_127 : decode cX5_rests 127 = .ok (.getfield 223, 3) := by decide +kernel
theorem dX5_rests_130 : decode cX5_rests 130 = .ok (.iload 5, 2) := by decide +kernel
theorem dX5_rests_132 : decode cX5_rests 132 = .ok (.ifCond .eq 7, 3) := by decide +kernel
theorem dX5_rests_135 : decode cX5_rests 135 = .ok (.iconst 1, 1) := by decide +kernel
theorem dX5_rests_136 : decode cX5_rests 136 = .ok (.goto 4, 3) := by decide +kernel
theorem dX5_rests_139 : decode cX5_rests 139 = .ok (.iconst 0, 1) := by decide +kernel
theorem dX5_rests_140 : decode cX5_rests 140 = .ok (.iadd, 1) := by decide +kernel
theorem dX5_rests_141 : decode cX5_rests 141 = .ok (.putfield 223, 3) := by decide +kernel
theorem dX5_rests_144 : decode cX5_rests 144 = .ok (.iinc 4 1, 3) := by decide +kernel
theorem dX5_rests_147 : decode cX5_rests 147 = .ok (.goto (-103), 3) := by decide +kernel
theorem dX5_rests_150 : decode cX5_rests 150 = .ok (.iinc 3 1, 3) := by decide +kernel
theorem dX5_rests_153 : decode cX5_rests 153 = .ok (.goto (-117), 3) := by decide +kernel
theorem dX5_rests_156 : decode cX5_rests 156 = .ok (.iload_n 1, 1) := by decide +kernel
theorem dX5_rests_157 : decode cX5_rests 157 = .ok (.ifCond .ne 10, 3) := by decide +kernel
theorem dX5_rests_160 : decode cX5_rests 160 = .ok (.aload_n 0, 1) := by decide +kernel
theorem dX5_rests_161 : decode cX5_rests 161 = .ok (.getfield 223, 3) := by decide +kernel
theorem dX5_rests_164 : decode cX5_rests 164 = .ok (.goto 7, 3) := by decide +kernel
theorem dX5_rests_167 : decode cX5_rests 167 = .ok (.aload_n 0, 1) := by decide +kernel
theorem dX5_rests_168 : decode cX5_rests 168 = .ok (.getfield 226, 3) := by decide +kernel
theorem dX5_rests_171 : decode cX5_rests 171 = .ok (.ireturn, 1) := by decide +kernel
set_option maxRecDepth 20000 in
theorem ggX5_balkers_X5_begin : GoodIn wsX5_balkers wsX5_begin := goodIn_r _ [8, 2, 3, 43, 44, 45, 46, 47, 48, 49, 50, 51, 52, 53, 54, 55, 56, 57, 58, 59, 60, 61, 62, 63, 64, 65, 66, 67, 68, 69, 70, 71, 72, 73, 74, 75] (by decide +kernel) (by decide +kernel)
set_option maxRecDepth 20000 in
theorem gX5_balkers_X5_begin : GoodIn wsX5_balkers (wsV RX5 175 RX5 yX5_begin wsX5_begin) := goodIn_app (goodIn_of _ (by decide +kernel)) ggX5_balkers_X5_begin
set_option maxRecDepth 20000 in
theorem ggX5_balkers_X5_has : GoodIn wsX5_balkers wsX5_has := goodIn_r _ [11] (by decide +kernel) (by decide +kernel)
set_option maxRecDepth 20000 in
theorem gX5_balkers_X5_has : GoodIn wsX5_balkers (va_wsS RX5 140 yX5_has wsX5_has) := goodIn_app (goodIn_of _ (by decide +kernel)) ggX5_balkers_X5_has
set_option maxRecDepth 20000 in
theorem ggX5_balkers_X5_toStone : GoodIn wsX5_balkers wsX5_toStone := goodIn_r _ [14, 15, 16, 17, 7, 18] (by decide +kernel) (by decide +kernel)
set_option maxRecDepth 20000 in
theorem gX5_balkers_X5_toStone : GoodIn wsX5_balkers (va_wsS RX5 119 yX5_toStone wsX5_toStone) := goodIn_app (goodIn_of _ (by decide +kernel)) ggX5_balkers_X5_toStone
set_option maxRecDepth 20000 in
theorem ggX5_balkers_X5_isBalking : GoodIn wsX5_balkers wsX5_isBalking := goodIn_r _ [22, 23, 24, 25, 7, 26, 27, 28, 29, 30, 31, 12, 13, 14, 15, 16, 17, 18, 32, 33, 34, 35, 1, 36, 37, 38, 39, 40, 41, 42, 43, 44, 45, 46, 47, 48, 49, 50, 51, 52, 53, 54, 55, 56, 57, 58, 59, 60, 61, 62, 63, 64, 65, 66, 67, 68, 69, 70, 71, 72, 73, 74, 75] (by decide +kernel) (by decide +kernel)
set_option maxRecDepth 20000 in
theorem gX5_balkers_X5_isBalking : GoodIn wsX5_balkers (wsV RX5 164 RX5 yX5_isBalking wsX5_isBalking) := goodIn_app (goodIn_of _ (by decide +kernel)) ggX5_balkers_X5_isBalking
theorem dX5_balkers_0 : decode cX5_balkers 0 = .ok (.aload_n 0, 1) := by decide +kernel
theorem dX5_balkers_1 : decode cX5_balkers 1 = .ok (.invokevirtual 175, 3) := by decide +kernel
theorem dX5_balkers_4 : decode cX5_balkers 4 = .ok (.iconst 0, 1) := by decide +kernel
theorem dX5_balkers_5 : decode cX5_balkers 5 = .ok (.istore_n 3, 1) := by decide +kernel
theorem dX5_balkers_6 : decode cX5_balkers 6 = .ok (.iconst 0, 1) := by decide +kernel
theorem dX5_balkers_7 : decode cX5_balkers 7 = .ok (.istore 4, 2) := by decide +kernel
theorem dX5_balkers_9 : decode cX5_balkers 9 = .ok (.iload 4, 2) := by decide +kernel
theorem dX5_balkers_11 : decode cX5_balkers 11 = .ok (.aload_n 0, 1) := by decide +kernel
theorem dX5_balkers_12 : decode cX5_balkers 12 = .ok (.getfield 72, 3) := by decide +kernel
theorem dX5_balkers_15 : decode cX5_balkers 15 = .ok (.if_icmp .ge 79, 3) := by decide +kernel
theorem dX5_balkers_18 : decode cX5_balkers 18 = .ok (.aload_n 0, 1) := by decide +kernel
theorem dX5_balkers_19 : decode cX5_balkers 19 = .ok (.getfield 34, 3) := by decide +kernel
theorem dX5_balkers_22 : decode cX5_balkers 22 = .ok (.bipush 10, 2) := by decide +kernel
theorem dX5_balkers_24 : decode cX5_balkers 24 = .ok (.iload 4, 2) := by decide +kernel
theorem dX5_balkers_26 : decode cX5_balkers 26 = .ok (.iadd, 1) := by decide +kernel
theorem dX5_balkers_27 : decode cX5_balkers 27 = .ok (.iload_n 2, 1) := by decide +kernel
theorem dX5_balkers_28 : decode cX5_balkers 28 = .ok (.iload 4, 2) := by decide +kernel
theorem dX5_balkers_30 : decode cX5_balkers 30 = .ok (.invokestatic 140, 3) := by decide +kernel
theorem dX5_balkers_33 : decode cX5_balkers 33 = .ok (.ifCond .eq 7, 3) := by decide +kernel
theorem dX5_balkers_36 : decode cX5_balkers 36 = .ok (.iconst 0, 1) := by decide +kernel
theorem dX5_balkers_37 : decode cX5_balkers 37 = .ok (.goto 13, 3) := by decide +kernel
theorem dX5_balkers_40 : decode cX5_balkers 40 = .ok (.aload_n 0, 1) := by decide +kernel
theorem dX5_balkers_41 : decode cX5_balkers 41 = .ok (.getfield 31, 3) := by decide +kernel
theorem dX5_balkers_44 : decode cX5_balkers 44 = .ok (.bipush 10, 2) := by decide +kernel
theorem dX5_balkers_46 : decode cX5_balkers 46 = .ok (.iload 4, 2) := by decide +kernel
theorem dX5_balkers_48 : decode cX5_balkers 48 = .ok (.iadd, 1) := by decide +kernel
theorem dX5_balkers_49 : decode cX5_balkers 49 = .ok (.iaload, 1) := by decide +kernel
theorem dX5_balkers_50 : decode cX5_balkers 50 = .ok (.iastore, 1) := by decide +kernel
theorem dX5_balkers_51 : decode cX5_balkers 51 = .ok (.iload_n 3, 1) := by decide +kernel
theorem dX5_balkers_52 : decode cX5_balkers 52 = .ok (.aload_n 0, 1) := by decide +kernel
theorem dX5_balkers_53 : decode cX5_balkers 53 = .ok (.getfield 34, 3) := by decide +kernel
theorem dX5_balkers_56 : decode cX5_balkers 56 = .ok (.iload 4, 2) := by decide +kernel
theorem dX5_balkers_58 : decode cX5_balkers 58 = .ok (.iload_n 1, 1) := by decide +kernel
theorem dX5_balkers_59 : decode cX5_balkers 59 = .ok (.invokestatic 119, 3) := by decide +kernel
theorem dX5_balkers_62 : decode cX5_balkers 62 = .ok (.bipush (-9), 2) := by decide +kernel
theorem dX5_balkers_64 : decode cX5_balkers 64 = .ok (.if_icmp .eq 21, 3) := by decide +kernel
theorem dX5_balkers_67 : decode cX5_balkers 67 = .ok (.aload_n 0, 1) := by decide +kernel
theorem dX5_balkers_68 : decode cX5_balkers 68 = .ok (.aload_n 0, 1) := by decide +kernel
theorem dX5_balkers_69 : decode cX5_balkers 69 = .ok (.getfield 34, 3) := by decide +kernel
theorem dX5_balkers_72 : decode cX5_balkers 72 = .ok (.iload 4, 2) := by decide +kernel
theorem dX5_balkers_74 : decode cX5_balkers 74 = .ok (.iload_n 1, 1) := by decide +kernel
theorem dX5_balkers_75 : decode cX5_balkers 75 = .ok (.invokevirtual 164, 3) := by decide +kernel
theorem dX5_balkers_78 : decode cX5_balkers 78 = .ok (.ifCond .eq 7, 3) := by decide +kernel
theorem dX5_balkers_81 : decode cX5_balkers 81 = .ok (.iconst 1, 1) := by decide +kernel
theorem dX5_balkers_82 : decode cX5_balkers 82 = .ok (.goto 4, 3) := by decide +kernel
theorem dX5_balkers_85 : decode cX5_balkers 85 = .ok (.iconst 0, 1) := by decide +kernel
theorem dX5_balkers_86 : decode cX5_balkers 86 = .ok (.iadd, 1) := by decide +kernel
theorem dX5_balkers_87 : decode cX5_balkers 87 = .ok (.istore_n 3, 1) := by decide +kernel
theorem dX5_balkers_88 : decode cX5_balkers 88 = .ok (.iinc 4 1, 3) := by decide +kernel
theorem dX5_balkers_91 : decode cX5_balkers 91 = .ok (.goto (-82), 3) := by decide +kernel
theorem dX5_balkers_94 : decode cX5_balkers 94 = .ok (.iload_n 3, 1) := by decide +kernel
theorem dX5_balkers_95 : decode cX5_balkers 95 = .ok (.ireturn, 1) := by decide +kernel
set_option maxRecDepth 20000 in
theorem ggX5_forgets_X5_in : GoodIn wsX5_forgets wsX5_in := goodIn_r _ [8] (by decide +kernel) (by decide +kernel)
set_option maxRecDepth 20000 in
theorem gX5_forgets_X5_in : GoodIn wsX5_forgets (va_wsS RX5 75 yX5_in wsX5_in) := goodIn_app (goodIn_of _ (by decide +kernel)) ggX5_forgets_X5_in
set_option maxRecDepth 20000 in
theorem ggX5_forgets_X5_many : GoodIn wsX5_forgets wsX5_many := goodIn_r _ [11] (by decide +kernel) (by decide +kernel)
set_option maxRecDepth 20000 in
theorem gX5_forgets_X5_many : GoodIn wsX5_forgets (va_wsS RX5 161 yX5_many wsX5_many) := goodIn_app (goodIn_of _ (by decide +kernel)) ggX5_forgets_X5_many
set_option maxRecDepth 20000 in
theorem ggX5_forgets_X5_balkers : GoodIn wsX5_forgets wsX5_balkers := goodIn_r _ [15, 4, 16, 17, 18, 19, 20, 7, 21, 22, 23, 24, 25, 26, 27, 28, 5, 6, 8, 29, 30, 31, 32, 33, 34, 35, 36, 37, 38, 39, 40, 41, 42, 43, 44, 45, 46, 47, 48, 49, 50, 51, 52, 62, 63, 64, 65, 66, 67, 68, 69, 70, 71, 72, 73, 74, 75, 76, 77, 78, 79, 80, 81, 82, 83, 84, 85, 86, 87, 88, 89, 90, 91, 92, 93, 94] (by decide +kernel) (by decide +kernel)
set_option maxRecDepth 20000 in
theorem gX5_forgets_X5_balkers : GoodIn wsX5_forgets (wsV RX5 235 RX5 yX5_balkers wsX5_balkers) := goodIn_app (goodIn_of _ (by decide +kernel)) ggX5_forgets_X5_balkers
set_option maxRecDepth 20000 in
theorem ggX5_forgets_X5_power : GoodIn wsX5_forgets wsX5_power := goodIn_r _ [55] (by decide +kernel) (by decide +kernel)
set_option maxRecDepth 20000 in
theorem gX5_forgets_X5_power : GoodIn wsX5_forgets (va_wsS RX5 189 yX5_power wsX5_power) := goodIn_app (goodIn_of _ (by decide +kernel)) ggX5_forgets_X5_power
set_option maxRecDepth 20000 in
theorem ggX5_forgets_X5_fraction : GoodIn wsX5_forgets wsX5_fraction := goodIn_r _ [58, 59, 60, 7, 61] (by decide +kernel) (by decide +kernel)
set_option maxRecDepth 20000 in
theorem gX5_forgets_X5_fraction : GoodIn wsX5_forgets (va_wsS RX5 204 yX5_fraction wsX5_fraction) := goodIn_app (goodIn_of _ (by decide +kernel)) ggX5_forgets_X5_fraction
theorem dX5_forgets_0 : decode cX5_forgets 0 = .ok (.aload_n 0, 1) := by decide +kernel
theorem dX5_forgets_1 : decode cX5_forgets 1 = .ok (.iconst 0, 1) := by decide +kernel
theorem dX5_forgets_2 : decode cX5_forgets 2 = .ok (.putfield 68, 3) := by decide +kernel
theorem dX5_forgets_5 : decode cX5_forgets 5 = .ok (.iload_n 1, 1) := by decide +kernel
theorem dX5_forgets_6 : decode cX5_forgets 6 = .ok (.i2l, 1) := by decide +kernel
theorem dX5_forgets_7 : decode cX5_forgets 7 = .ok (.lconst 0, 1) := by decide +kernel
theorem dX5_forgets_8 : decode cX5_forgets 8 = .ok (.lconst 1, 1) := by decide +kernel
theorem dX5_forgets_9 : decode cX5_forgets 9 = .ok (.invokestatic 75, 3) := by decide +kernel
theorem dX5_forgets_12 : decode cX5_forgets 12 = .ok (.ifCond .eq 27, 3) := by decide +kernel
theorem dX5_forgets_15 : decode cX5_forgets 15 = .ok (.iload_n 2, 1) := by decide +kernel
theorem dX5_forgets_16 : decode cX5_forgets 16 = .ok (.i2l, 1) := by decide +kernel
theorem dX5_forgets_17 : decode cX5_forgets 17 = .ok (.lconst 0, 1) := by decide +kernel
theorem dX5_forgets_18 : decode cX5_forgets 18 = .ok (.ldc2_w 185, 3) := by decide +kernel
theorem dX5_forgets_21 : decode cX5_forgets 21 = .ok (.invokestatic 75, 3) := by decide +kernel
theorem dX5_forgets_24 : decode cX5_forgets 24 = .ok (.ifCond .eq 15, 3) := by decide +kernel
theorem dX5_forgets_27 : decode cX5_forgets 27 = .ok (.iload_n 3, 1) := by decide +kernel
theorem dX5_forgets_28 : decode cX5_forgets 28 = .ok (.i2l, 1) := by decide +kernel
theorem dX5_forgets_29 : decode cX5_forgets 29 = .ok (.lconst 0, 1) := by decide +kernel
theorem dX5_forgets_30 : decode cX5_forgets 30 = .ok (.ldc2_w 233, 3) := by decide +kernel

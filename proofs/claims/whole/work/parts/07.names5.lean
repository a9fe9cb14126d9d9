theorem dX5_knowers_9 : decode cX5_knowers 9 = .ok (.if_icmp .ge 35, 3) := by decide +kernel
theorem dX5_knowers_12 : decode cX5_knowers 12 = .ok (.iload_n 2, 1) := by decide +kernel
theorem dX5_knowers_13 : decode cX5_knowers 13 = .ok (.aload_n 0, 1) := by decide +kernel
theorem dX5_knowers_14 : decode cX5_knowers 14 = .ok (.aload_n 0, 1) := by decide +kernel
theorem dX5_knowers_15 : decode cX5_knowers 15 = .ok (.getfield 31, 3) := by decide +kernel
theorem dX5_knowers_18 : decode cX5_knowers 18 = .ok (.iload_n 3, 1) := by decide +kernel
theorem dX5_knowers_19 : decode cX5_knowers 19 = .ok (.invokevirtual 133, 3) := by decide +kernel
theorem dX5_knowers_22 : decode cX5_knowers 22 = .ok (.iload_n 1, 1) := by decide +kernel
theorem dX5_knowers_23 : decode cX5_knowers 23 = .ok (.invokestatic 140, 3) := by decide +kernel
theorem dX5_knowers_26 : decode cX5_knowers 26 = .ok (.ifCond .eq 9, 3) := by decide +kernel
theorem dX5_knowers_29 : decode cX5_knowers 29 = .ok (.iconst 1, 1) := by decide +kernel
theorem dX5_knowers_30 : decode cX5_knowers 30 = .ok (.iload_n 3, 1) := by decide +kernel
theorem dX5_knowers_31 : decode cX5_knowers 31 = .ok (.ishl, 1) := by decide +kernel
theorem dX5_knowers_32 : decode cX5_knowers 32 = .ok (.goto 4, 3) := by decide +kernel
theorem dX5_knowers_35 : decode cX5_knowers 35 = .ok (.iconst 0, 1) := by decide +kernel
theorem dX5_knowers_36 : decode cX5_knowers 36 = .ok (.ior, 1) := by decide +kernel
theorem dX5_knowers_37 : decode cX5_knowers 37 = .ok (.istore_n 2, 1) := by decide +kernel
theorem dX5_knowers_38 : decode cX5_knowers 38 = .ok (.iinc 3 1, 3) := by decide +kernel
theorem dX5_knowers_41 : decode cX5_knowers 41 = .ok (.goto (-37), 3) := by decide +kernel
theorem dX5_knowers_44 : decode cX5_knowers 44 = .ok (.iload_n 2, 1) := by decide +kernel
theorem dX5_knowers_45 : decode cX5_knowers 45 = .ok (.ireturn, 1) := by decide +kernel
set_option maxRecDepth 20000 in
theorem ggX5_article_X5_noArticle : GoodIn wsX5_article wsX5_noArticle := goodIn_r _ [9, 10, 11, 12, 8, 13, 27, 28, 29, 30, 31, 32, 33, 34, 35, 36, 37, 38, 39, 40, 41, 42, 43, 44, 45, 46, 47, 48, 49, 50, 51, 52, 53, 54, 55, 56, 57, 58, 59] (by decide +kernel) (by decide +kernel)
set_option maxRecDepth 20000 in
theorem gX5_article_X5_noArticle : GoodIn wsX5_article (wsV RX5 144 RX5 yX5_noArticle wsX5_noArticle) := goodIn_app (goodIn_of _ (by decide +kernel)) ggX5_article_X5_noArticle
set_option maxRecDepth 20000 in
theorem ggX5_article_X5_knowers : GoodIn wsX5_article wsX5_knowers := goodIn_r _ [17, 18, 19, 20, 21, 22, 8, 23, 10, 24, 25, 26, 27, 28, 29, 30, 31, 32, 33, 34, 35, 36, 37, 38, 39, 40, 41, 42, 43, 44, 45, 46, 47, 48, 49, 50, 51, 52, 53, 54, 55, 56, 57, 58, 59] (by decide +kernel) (by decide +kernel)
set_option maxRecDepth 20000 in
theorem gX5_article_X5_knowers : GoodIn wsX5_article (wsV RX5 148 RX5 yX5_knowers wsX5_knowers) := goodIn_app (goodIn_of _ (by decide +kernel)) ggX5_article_X5_knowers
theorem dX5_article_0 : decode cX5_article 0 = .ok (.aload_n 0, 1) := by decide +kernel
theorem dX5_article_1 : decode cX5_article 1 = .ok (.iconst 0, 1) := by decide +kernel
theorem dX5_article_2 : decode cX5_article 2 = .ok (.putfield 68, 3) := by decide +kernel
theorem dX5_article_5 : decode cX5_article 5 = .ok (.aload_n 0, 1) := by decide +kernel
theorem dX5_article_6 : decode cX5_article 6 = .ok (.iload_n 1, 1) := by decide +kernel
theorem dX5_article_7 : decode cX5_article 7 = .ok (.invokevirtual 144, 3) := by decide +kernel
theorem dX5_article_10 : decode cX5_article 10 = .ok (.ifCond .eq 5, 3) := by decide +kernel
theorem dX5_article_13 : decode cX5_article 13 = .ok (.iconst (-1), 1) := by decide +kernel
theorem dX5_article_14 : decode cX5_article 14 = .ok (.ireturn, 1) := by decide +kernel
theorem dX5_article_15 : decode cX5_article 15 = .ok (.iload_n 2, 1) := by decide +kernel
theorem dX5_article_16 : decode cX5_article 16 = .ok (.tableswitch 59 0 3 #[32, 39, 46, 53], 32) := by decide +kernel
theorem dX5_article_48 : decode cX5_article 48 = .ok (.aload_n 0, 1) := by decide +kernel
theorem dX5_article_49 : decode cX5_article 49 = .ok (.getfield 16, 3) := by decide +kernel
theorem dX5_article_52 : decode cX5_article 52 = .ok (.iload_n 1, 1) := by decide +kernel
theorem dX5_article_53 : decode cX5_article 53 = .ok (.iaload, 1) := by decide +kernel
theorem dX5_article_54 : decode cX5_article 54 = .ok (.ireturn, 1) := by decide +kernel
theorem dX5_article_55 : decode cX5_article 55 = .ok (.aload_n 0, 1) := by decide +kernel
theorem dX5_article_56 : decode cX5_article 56 = .ok (.getfield 19, 3) := by decide +kernel
theorem dX5_article_59 : decode cX5_article 59 = .ok (.iload_n 1, 1) := by decide +kernel
theorem dX5_article_60 : decode cX5_article 60 = .ok (.iaload, 1) := by decide +kernel
theorem dX5_article_61 : decode cX5_article 61 = .ok (.ireturn, 1) := by decide +kernel
theorem dX5_article_62 : decode cX5_article 62 = .ok (.aload_n 0, 1) := by decide +kernel
theorem dX5_article_63 : decode cX5_article 63 = .ok (.getfield 22, 3) := by decide +kernel
theorem dX5_article_66 : decode cX5_article 66 = .ok (.iload_n 1, 1) := by decide +kernel
theorem dX5_article_67 : decode cX5_article 67 = .ok (.iaload, 1) := by decide +kernel
theorem dX5_article_68 : decode cX5_article 68 = .ok (.ireturn, 1) := by decide +kernel
theorem dX5_article_69 : decode cX5_article 69 = .ok (.aload_n 0, 1) := by decide +kernel
theorem dX5_article_70 : decode cX5_article 70 = .ok (.iload_n 1, 1) := by decide +kernel
theorem dX5_article_71 : decode cX5_article 71 = .ok (.invokevirtual 148, 3) := by decide +kernel
theorem dX5_article_74 : decode cX5_article 74 = .ok (.ireturn, 1) := by decide +kernel
theorem dX5_article_75 : decode cX5_article 75 = .ok (.bipush (-2), 2) := by decide +kernel
theorem dX5_article_77 : decode cX5_article 77 = .ok (.ireturn, 1) := by decide +kernel
set_option maxRecDepth 20000 in
theorem ggX5_mule_X5_noMule : GoodIn wsX5_mule wsX5_noMule := goodIn_r _ [8, 9, 10, 11, 7, 12, 18, 19, 20, 21, 22, 23, 24, 25, 26, 27, 28, 29, 30, 31, 32, 33, 34, 35, 36, 37, 38, 39, 40, 41, 42, 43, 44, 45, 46, 47, 48, 49, 50] (by decide +kernel) (by decide +kernel)
set_option maxRecDepth 20000 in
theorem gX5_mule_X5_noMule : GoodIn wsX5_mule (wsV RX5 151 RX5 yX5_noMule wsX5_noMule) := goodIn_app (goodIn_of _ (by decide +kernel)) ggX5_mule_X5_noMule
set_option maxRecDepth 20000 in
theorem ggX5_mule_X5_knows : GoodIn wsX5_mule wsX5_knows := goodIn_r _ [16, 17, 18, 19, 20, 21, 22, 23, 24, 25, 26, 27, 28, 29, 30, 31, 32, 33, 34, 35, 36, 37, 38, 39, 40, 41, 42, 43, 44, 45, 46, 47, 48, 49, 50] (by decide +kernel) (by decide +kernel)
set_option maxRecDepth 20000 in
theorem gX5_mule_X5_knows : GoodIn wsX5_mule (wsV RX5 133 RX5 yX5_knows wsX5_knows) := goodIn_app (goodIn_of _ (by decide +kernel)) ggX5_mule_X5_knows
theorem dX5_mule_0 : decode cX5_mule 0 = .ok (.aload_n 0, 1) := by decide +kernel
theorem dX5_mule_1 : decode cX5_mule 1 = .ok (.iconst 0, 1) := by decide +kernel
theorem dX5_mule_2 : decode cX5_mule 2 = .ok (.putfield 68, 3) := by decide +kernel
theorem dX5_mule_5 : decode cX5_mule 5 = .ok (.aload_n 0, 1) := by decide +kernel
theorem dX5_mule_6 : decode cX5_mule 6 = .ok (.iload_n 1, 1) := by decide +kernel
theorem dX5_mule_7 : decode cX5_mule 7 = .ok (.invokevirtual 151, 3) := by decide +kernel
theorem dX5_mule_10 : decode cX5_mule 10 = .ok (.ifCond .eq 5, 3) := by decide +kernel
theorem dX5_mule_13 : decode cX5_mule 13 = .ok (.iconst (-1), 1) := by decide +kernel
theorem dX5_mule_14 : decode cX5_mule 14 = .ok (.ireturn, 1) := by decide +kernel
theorem dX5_mule_15 : decode cX5_mule 15 = .ok (.iload_n 2, 1) := by decide +kernel
theorem dX5_mule_16 : decode cX5_mule 16 = .ok (.tableswitch 81 0 4 #[36, 45, 52, 61, 71], 36) := by decide +kernel
theorem dX5_mule_52 : decode cX5_mule 52 = .ok (.aload_n 0, 1) := by decide +kernel
theorem dX5_mule_53 : decode cX5_mule 53 = .ok (.getfield 31, 3) := by decide +kernel
theorem dX5_mule_56 : decode cX5_mule 56 = .ok (.iconst 0, 1) := by decide +kernel
theorem dX5_mule_57 : decode cX5_mule 57 = .ok (.iload_n 1, 1) := by decide +kernel
theorem dX5_mule_58 : decode cX5_mule 58 = .ok (.iadd, 1) := by decide +kernel
theorem dX5_mule_59 : decode cX5_mule 59 = .ok (.iaload, 1) := by decide +kernel
theorem dX5_mule_60 : decode cX5_mule 60 = .ok (.ireturn, 1) := by decide +kernel
theorem dX5_mule_61 : decode cX5_mule 61 = .ok (.aload_n 0, 1) := by decide +kernel
theorem dX5_mule_62 : decode cX5_mule 62 = .ok (.getfield 13, 3) := by decide +kernel
theorem dX5_mule_65 : decode cX5_mule 65 = .ok (.iload_n 1, 1) := by decide +kernel
theorem dX5_mule_66 : decode cX5_mule 66 = .ok (.iaload, 1) := by decide +kernel
theorem dX5_mule_67 : decode cX5_mule 67 = .ok (.ireturn, 1) := by decide +kernel
theorem dX5_mule_68 : decode cX5_mule 68 = .ok (.aload_n 0, 1) := by decide +kernel
theorem dX5_mule_69 : decode cX5_mule 69 = .ok (.getfield 31, 3) := by decide +kernel
theorem dX5_mule_72 : decode cX5_mule 72 = .ok (.iconst 5, 1) := by decide +kernel
theorem dX5_mule_73 : decode cX5_mule 73 = .ok (.iload_n 1, 1) := by decide +kernel
theorem dX5_mule_74 : decode cX5_mule 74 = .ok (.iadd, 1) := by decide +kernel
theorem dX5_mule_75 : decode cX5_mule 75 = .ok (.iaload, 1) := by decide +kernel
theorem dX5_mule_76 : decode cX5_mule 76 = .ok (.ireturn, 1) := by decide +kernel
theorem dX5_mule_77 : decode cX5_mule 77 = .ok (.aload_n 0, 1) := by decide +kernel
theorem dX5_mule_78 : decode cX5_mule 78 = .ok (.getfield 31, 3) := by decide +kernel
theorem dX5_mule_81 : decode cX5_mule 81 = .ok (.bipush 10, 2) := by decide +kernel
theorem dX5_mule_83 : decode cX5_mule 83 = .ok (.iload_n 1, 1) := by decide +kernel
theorem dX5_mule_84 : decode cX5_mule 84 = .ok (.iadd, 1) := by decide +kernel
theorem dX5_mule_85 : decode cX5_mule 85 = .ok (.iaload, 1) := by decide +kernel
theorem dX5_mule_86 : decode cX5_mule 86 = .ok (.ireturn, 1) := by decide +kernel
theorem dX5_mule_87 : decode cX5_mule 87 = .ok (.aload_n 0, 1) := by decide +kernel
theorem dX5_mule_88 : decode cX5_mule 88 = .ok (.aload_n 0, 1) := by decide +kernel
theorem dX5_mule_89 : decode cX5_mule 89 = .ok (.getfield 31, 3) := by decide +kernel
theorem dX5_mule_92 : decode cX5_mule 92 = .ok (.iload_n 1, 1) := by decide +kernel
theorem dX5_mule_93 : decode cX5_mule 93 = .ok (.invokevirtual 133, 3) := by decide +kernel
theorem dX5_mule_96 : decode cX5_mule 96 = .ok (.ireturn, 1) := by decide +kernel
theorem dX5_mule_97 : decode cX5_mule 97 = .ok (.bipush (-2), 2) := by decide +kernel
theorem dX5_mule_99 : decode cX5_mule 99 = .ok (.ireturn, 1) := by decide +kernel
set_option maxRecDepth 20000 in
theorem ggX5_noStep_X5_noMule : GoodIn wsX5_noStep wsX5_noMule := goodIn_r _ [6, 7, 8, 9, 5, 10, 15, 16, 17, 18, 19, 20, 21, 22, 23, 24, 25, 26, 27, 28, 29, 30, 31, 32, 33, 34, 35, 36, 37, 38, 39, 40, 41, 42, 43, 44, 45, 46, 47] (by decide +kernel) (by decide +kernel)
set_option maxRecDepth 20000 in
theorem gX5_noStep_X5_noMule : GoodIn wsX5_noStep (wsV RX5 151 RX5 yX5_noMule wsX5_noMule) := goodIn_app (goodIn_of _ (by decide +kernel)) ggX5_noStep_X5_noMule
set_option maxRecDepth 20000 in
theorem ggX5_noStep_X5_in : GoodIn wsX5_noStep wsX5_in := goodIn_r _ [10] (by decide +kernel) (by decide +kernel)
set_option maxRecDepth 20000 in
theorem gX5_noStep_X5_in : GoodIn wsX5_noStep (va_wsS RX5 75 yX5_in wsX5_in) := goodIn_app (goodIn_of _ (by decide +kernel)) ggX5_noStep_X5_in
set_option maxRecDepth 20000 in
theorem ggX5_noStep_X5_toStone : GoodIn wsX5_noStep wsX5_toStone := goodIn_r _ [13, 14, 8, 9, 5, 10] (by decide +kernel) (by decide +kernel)
set_option maxRecDepth 20000 in
theorem gX5_noStep_X5_toStone : GoodIn wsX5_noStep (va_wsS RX5 119 yX5_toStone wsX5_toStone) := goodIn_app (goodIn_of _ (by decide +kernel)) ggX5_noStep_X5_toStone
theorem dX5_noStep_0 : decode cX5_noStep 0 = .ok (.aload_n 0, 1) := by decide +kernel
theorem dX5_noStep_1 : decode cX5_noStep 1 = .ok (.iload_n 1, 1) := by decide +kernel
theorem dX5_noStep_2 : decode cX5_noStep 2 = .ok (.invokevirtual 151, 3) := by decide +kernel
theorem dX5_noStep_5 : decode cX5_noStep 5 = .ok (.ifCond .eq 5, 3) := by decide +kernel
theorem dX5_noStep_8 : decode cX5_noStep 8 = .ok (.iconst (-1), 1) := by decide +kernel
theorem dX5_noStep_9 : decode cX5_noStep 9 = .ok (.ireturn, 1) := by decide +kernel
theorem dX5_noStep_10 : decode cX5_noStep 10 = .ok (.iload_n 2, 1) := by decide +kernel
theorem dX5_noStep_11 : decode cX5_noStep 11 = .ok (.i2l, 1) := by decide +kernel
theorem dX5_noStep_12 : decode cX5_noStep 12 = .ok (.lconst 0, 1) := by decide +kernel
theorem dX5_noStep_13 : decode cX5_noStep 13 = .ok (.lconst 1, 1) := by decide +kernel
theorem dX5_noStep_14 : decode cX5_noStep 14 = .ok (.invokestatic 75, 3) := by decide +kernel
theorem dX5_noStep_17 : decode cX5_noStep 17 = .ok (.ifCond .ne 6, 3) := by decide +kernel
theorem dX5_noStep_20 : decode cX5_noStep 20 = .ok (.bipush (-2), 2) := by decide +kernel
theorem dX5_noStep_22 : decode cX5_noStep 22 = .ok (.ireturn, 1) := by decide +kernel
theorem dX5_noStep_23 : decode cX5_noStep 23 = .ok (.aload_n 0, 1) := by decide +kernel
theorem dX5_noStep_24 : decode cX5_noStep 24 = .ok (.getfield 31, 3) := by decide +kernel
theorem dX5_noStep_27 : decode cX5_noStep 27 = .ok (.iload_n 1, 1) := by decide +kernel
theorem dX5_noStep_28 : decode cX5_noStep 28 = .ok (.iload_n 2, 1) := by decide +kernel
theorem dX5_noStep_29 : decode cX5_noStep 29 = .ok (.invokestatic 119, 3) := by decide +kernel
theorem dX5_noStep_32 : decode cX5_noStep 32 = .ok (.bipush (-9), 2) := by decide +kernel
theorem dX5_noStep_34 : decode cX5_noStep 34 = .ok (.if_icmp .ne 8, 3) := by decide +kernel
theorem dX5_noStep_37 : decode cX5_noStep 37 = .ok (.bipush (-3), 2) := by decide +kernel
theorem dX5_noStep_39 : decode cX5_noStep 39 = .ok (.goto 4, 3) := by decide +kernel
theorem dX5_noStep_42 : decode cX5_noStep 42 = .ok (.iconst 0, 1) := by decide +kernel
theorem dX5_noStep_43 : decode cX5_noStep 43 = .ok (.ireturn, 1) := by decide +kernel
set_option maxRecDepth 20000 in
theorem ggX5_by_X5_noStep : GoodIn wsX5_by wsX5_noStep := goodIn_r _ [7, 2, 8, 9, 10, 6, 11, 12, 13, 14, 15, 16, 17, 18, 19, 36, 37, 38, 39, 40, 41, 42, 43, 44, 45, 46, 47, 48, 49, 50, 51, 52, 53, 54, 55, 56, 57, 58, 59, 60, 61, 62, 63, 64, 65, 66, 67, 68] (by decide +kernel) (by decide +kernel)
set_option maxRecDepth 20000 in
theorem gX5_by_X5_noStep : GoodIn wsX5_by (wsV RX5 154 RX5 yX5_noStep wsX5_noStep) := goodIn_app (goodIn_of _ (by decide +kernel)) ggX5_by_X5_noStep
set_option maxRecDepth 20000 in
theorem ggX5_by_X5_forbids : GoodIn wsX5_by wsX5_forbids := goodIn_r _ [23, 24, 25, 26, 27, 28, 16, 17, 6, 18, 19, 13, 14, 15, 29, 30, 31, 32, 12, 33, 34, 35, 36, 37, 38, 39, 40, 41, 42, 43, 44, 45, 46, 47, 48, 49, 50, 51, 52, 53, 54, 55, 56, 57, 58, 59, 60, 61, 62, 63, 64, 65, 66, 67, 68] (by decide +kernel) (by decide +kernel)
set_option maxRecDepth 20000 in
theorem gX5_by_X5_forbids : GoodIn wsX5_by (wsV RX5 130 RX5 yX5_forbids wsX5_forbids) := goodIn_app (goodIn_of _ (by decide +kernel)) ggX5_by_X5_forbids
theorem dX5_by_0 : decode cX5_by 0 = .ok (.aload_n 0, 1) := by decide +kernel
theorem dX5_by_1 : decode cX5_by 1 = .ok (.iconst 0, 1) := by decide +kernel
theorem dX5_by_2 : decode cX5_by 2 = .ok (.putfield 68, 3) := by decide +kernel
theorem dX5_by_5 : decode cX5_by 5 = .ok (.aload_n 0, 1) := by decide +kernel
theorem dX5_by_6 : decode cX5_by 6 = .ok (.iload_n 1, 1) := by decide +kernel
theorem dX5_by_7 : decode cX5_by 7 = .ok (.iload_n 2, 1) := by decide +kernel
theorem dX5_by_8 : decode cX5_by 8 = .ok (.invokevirtual 154, 3) := by decide +kernel
theorem dX5_by_11 : decode cX5_by 11 = .ok (.istore_n 3, 1) := by decide +kernel
theorem dX5_by_12 : decode cX5_by 12 = .ok (.iload_n 3, 1) := by decide +kernel
theorem dX5_by_13 : decode cX5_by 13 = .ok (.ifCond .eq 7, 3) := by decide +kernel
theorem dX5_by_16 : decode cX5_by 16 = .ok (.iload_n 3, 1) := by decide +kernel
theorem dX5_by_17 : decode cX5_by 17 = .ok (.goto 13, 3) := by decide +kernel
theorem dX5_by_20 : decode cX5_by 20 = .ok (.aload_n 0, 1) := by decide +kernel
theorem dX5_by_21 : decode cX5_by 21 = .ok (.aload_n 0, 1) := by decide +kernel
theorem dX5_by_22 : decode cX5_by 22 = .ok (.getfield 31, 3) := by decide +kernel
theorem dX5_by_25 : decode cX5_by 25 = .ok (.iload_n 1, 1) := by decide +kernel
theorem dX5_by_26 : decode cX5_by 26 = .ok (.iload_n 2, 1) := by decide +kernel
theorem dX5_by_27 : decode cX5_by 27 = .ok (.invokevirtual 130, 3) := by decide +kernel
theorem dX5_by_30 : decode cX5_by 30 = .ok (.ireturn, 1) := by decide +kernel
set_option maxRecDepth 20000 in
theorem ggX5_leastOf_X5_has : GoodIn wsX5_leastOf wsX5_has := goodIn_r _ [4] (by decide +kernel) (by decide +kernel)
set_option maxRecDepth 20000 in
theorem gX5_leastOf_X5_has : GoodIn wsX5_leastOf (va_wsS RX5 140 yX5_has wsX5_has) := goodIn_app (goodIn_of _ (by decide +kernel)) ggX5_leastOf_X5_has
theorem dX5_leastOf_0 : decode cX5_leastOf 0 = .ok (.bipush (-9), 2) := by decide +kernel
theorem dX5_leastOf_2 : decode cX5_leastOf 2 = .ok (.istore_n 1, 1) := by decide +kernel
theorem dX5_leastOf_3 : decode cX5_leastOf 3 = .ok (.iconst 4, 1) := by decide +kernel
theorem dX5_leastOf_4 : decode cX5_leastOf 4 = .ok (.istore_n 2, 1) := by decide +kernel
theorem dX5_leastOf_5 : decode cX5_leastOf 5 = .ok (.iload_n 2, 1) := by decide +kernel
theorem dX5_leastOf_6 : decode cX5_leastOf 6 = .ok (.ifCond .lt 23, 3) := by decide +kernel
theorem dX5_leastOf_9 : decode cX5_leastOf 9 = .ok (.iload_n 0, 1) := by decide +kernel
theorem dX5_leastOf_10 : decode cX5_leastOf 10 = .ok (.iload_n 2, 1) := by decide +kernel
theorem dX5_leastOf_11 : decode cX5_leastOf 11 = .ok (.invokestatic 140, 3) := by decide +kernel
theorem dX5_leastOf_14 : decode cX5_leastOf 14 = .ok (.ifCond .eq 7, 3) := by decide +kernel
theorem dX5_leastOf_17 : decode cX5_leastOf 17 = .ok (.iload_n 2, 1) := by decide +kernel
theorem dX5_leastOf_18 : decode cX5_leastOf 18 = .ok (.goto 4, 3) := by decide +kernel
theorem dX5_leastOf_21 : decode cX5_leastOf 21 = .ok (.iload_n 1, 1) := by decide +kernel
theorem dX5_leastOf_22 : decode cX5_leastOf 22 = .ok (.istore_n 1, 1) := by decide +kernel
theorem dX5_leastOf_23 : decode cX5_leastOf 23 = .ok (.iinc 2 (-1), 3) := by decide +kernel
theorem dX5_leastOf_26 : decode cX5_leastOf 26 = .ok (.goto (-21), 3) := by decide +kernel
theorem dX5_leastOf_29 : decode cX5_leastOf 29 = .ok (.iload_n 1, 1) := by decide +kernel
theorem dX5_leastOf_30 : decode cX5_leastOf 30 = .ok (.ireturn, 1) := by decide +kernel
set_option maxRecDepth 20000 in
theorem ggX5_balks_X5_noStep : GoodIn wsX5_balks wsX5_noStep := goodIn_r _ [7, 2, 8, 9, 10, 6, 11, 12, 13, 14, 15, 16, 17, 18, 19, 46, 47, 48, 49, 50, 51, 52, 53, 54, 55, 56, 57, 58, 59, 60, 61, 62, 63, 64, 65, 66, 67, 68, 69, 70, 71, 72, 73, 74, 75, 76, 77, 78] (by decide +kernel) (by decide +kernel)
set_option maxRecDepth 20000 in
theorem gX5_balks_X5_noStep : GoodIn wsX5_balks (wsV RX5 154 RX5 yX5_noStep wsX5_noStep) := goodIn_app (goodIn_of _ (by decide +kernel)) ggX5_balks_X5_noStep
set_option maxRecDepth 20000 in
theorem ggX5_balks_X5_forbids : GoodIn wsX5_balks wsX5_forbids := goodIn_r _ [23, 24, 25, 26, 27, 28, 16, 17, 6, 18, 19, 13, 14, 15, 29, 30, 31, 32, 12, 33, 34, 35, 46, 47, 48, 49, 50, 51, 52, 53, 54, 55, 56, 57, 58, 59, 60, 61, 62, 63, 64, 65, 66, 67, 68, 69, 70, 71, 72, 73, 74, 75, 76, 77, 78] (by decide +kernel) (by decide +kernel)
set_option maxRecDepth 20000 in
theorem gX5_balks_X5_forbids : GoodIn wsX5_balks (wsV RX5 130 RX5 yX5_forbids wsX5_forbids) := goodIn_app (goodIn_of _ (by decide +kernel)) ggX5_balks_X5_forbids
set_option maxRecDepth 20000 in
theorem ggX5_balks_X5_knows : GoodIn wsX5_balks wsX5_knows := goodIn_r _ [39, 24, 46, 47, 48, 49, 50, 51, 52, 53, 54, 55, 56, 57, 58, 59, 60, 61, 62, 63, 64, 65, 66, 67, 68, 69, 70, 71, 72, 73, 74, 75, 76, 77, 78] (by decide +kernel) (by decide +kernel)
set_option maxRecDepth 20000 in
theorem gX5_balks_X5_knows : GoodIn wsX5_balks (wsV RX5 133 RX5 yX5_knows wsX5_knows) := goodIn_app (goodIn_of _ (by decide +kernel)) ggX5_balks_X5_knows
set_option maxRecDepth 20000 in
theorem ggX5_balks_X5_leastOf : GoodIn wsX5_balks wsX5_leastOf := goodIn_r _ [42, 43, 44, 6, 45] (by decide +kernel) (by decide +kernel)
set_option maxRecDepth 20000 in
theorem gX5_balks_X5_leastOf : GoodIn wsX5_balks (va_wsS RX5 158 yX5_leastOf wsX5_leastOf) := goodIn_app (goodIn_of _ (by decide +kernel)) ggX5_balks_X5_leastOf
theorem dX5_balks_0 : decode cX5_balks 0 = .ok (.aload_n 0, 1) := by decide +kernel
theorem dX5_balks_1 : decode cX5_balks 1 = .ok (.iconst 0, 1) := by decide +kernel
theorem dX5_balks_2 : decode cX5_balks 2 = .ok (.putfield 68, 3) := by decide +kernel
theorem dX5_balks_5 : decode cX5_balks 5 = .ok (.aload_n 0, 1) := by decide +kernel
theorem dX5_balks_6 : decode cX5_balks 6 = .ok (.iload_n 1, 1) := by decide +kernel
theorem dX5_balks_7 : decode cX5_balks 7 = .ok (.iload_n 2, 1) := by decide +kernel
theorem dX5_balks_8 : decode cX5_balks 8 = .ok (.invokevirtual 154, 3) := by decide +kernel
theorem dX5_balks_11 : decode cX5_balks 11 = .ok (.istore_n 3, 1) := by decide +kernel
theorem dX5_balks_12 : decode cX5_balks 12 = .ok (.iload_n 3, 1) := by decide +kernel
theorem dX5_balks_13 : decode cX5_balks 13 = .ok (.ifCond .eq 7, 3) := by decide +kernel
theorem dX5_balks_16 : decode cX5_balks 16 = .ok (.iload_n 3, 1) := by decide +kernel
theorem dX5_balks_17 : decode cX5_balks 17 = .ok (.goto 26, 3) := by decide +kernel
theorem dX5_balks_20 : decode cX5_balks 20 = .ok (.aload_n 0, 1) := by decide +kernel
theorem dX5_balks_21 : decode cX5_balks 21 = .ok (.aload_n 0, 1) := by decide +kernel
theorem dX5_balks_22 : decode cX5_balks 22 = .ok (.getfield 31, 3) := by decide +kernel
theorem dX5_balks_25 : decode cX5_balks 25 = .ok (.iload_n 1, 1) := by decide +kernel
theorem dX5_balks_26 : decode cX5_balks 26 = .ok (.iload_n 2, 1) := by decide +kernel
theorem dX5_balks_27 : decode cX5_balks 27 = .ok (.invokevirtual 130, 3) := by decide +kernel
theorem dX5_balks_30 : decode cX5_balks 30 = .ok (.aload_n 0, 1) := by decide +kernel
theorem dX5_balks_31 : decode cX5_balks 31 = .ok (.aload_n 0, 1) := by decide +kernel
theorem dX5_balks_32 : decode cX5_balks 32 = .ok (.getfield 31, 3) := by decide +kernel
theorem dX5_balks_35 : decode cX5_balks 35 = .ok (.iload_n 1, 1) := by decide +kernel
theorem dX5_balks_36 : decode cX5_balks 36 = .ok (.invokevirtual 133, 3) := by decide +kernel
theorem dX5_balks_39 : decode cX5_balks 39 = .ok (.iand, 1) := by decide +kernel
theorem dX5_balks_40 : decode cX5_balks 40 = .ok (.invokestatic 158, 3) := by decide +kernel
theorem dX5_balks_43 : decode cX5_balks 43 = .ok (.ireturn, 1) := by decide +kernel
theorem dX5_note_0 : decode cX5_note 0 = .ok (.aload_n 0, 1) := by decide +kernel
theorem dX5_note_1 : decode cX5_note 1 = .ok (.getfield 114, 3) := by decide +kernel
theorem dX5_note_4 : decode cX5_note 4 = .ok (.bipush 14, 2) := by decide +kernel
theorem dX5_note_6 : decode cX5_note 6 = .ok (.if_icmp .ne 43, 3) := by decide +kernel
theorem dX5_note_9 : decode cX5_note 9 = .ok (.iconst 0, 1) := by decide +kernel
theorem dX5_note_10 : decode cX5_note 10 = .ok (.istore_n 1, 1) := by decide +kernel
theorem dX5_note_11 : decode cX5_note 11 = .ok (.iload_n 1, 1) := by decide +kernel
theorem dX5_note_12 : decode cX5_note 12 = .ok (.sipush 221, 3) := by decide +kernel
theorem dX5_note_15 : decode cX5_note 15 = .ok (.if_icmp .ge 24, 3) := by decide +kernel
theorem dX5_note_18 : decode cX5_note 18 = .ok (.aload_n 0, 1) := by decide +kernel
theorem dX5_note_19 : decode cX5_note 19 = .ok (.getfield 37, 3) := by decide +kernel
theorem dX5_note_22 : decode cX5_note 22 = .ok (.iload_n 1, 1) := by decide +kernel
theorem dX5_note_23 : decode cX5_note 23 = .ok (.aload_n 0, 1) := by decide +kernel
theorem dX5_note_24 : decode cX5_note 24 = .ok (.getfield 37, 3) := by decide +kernel
theorem dX5_note_27 : decode cX5_note 27 = .ok (.iload_n 1, 1) := by decide +kernel
theorem dX5_note_28 : decode cX5_note 28 = .ok (.bipush 17, 2) := by decide +kernel
theorem dX5_note_30 : decode cX5_note 30 = .ok (.iadd, 1) := by decide +kernel
theorem dX5_note_31 : decode cX5_note 31 = .ok (.iaload, 1) := by decide +kernel
theorem dX5_note_32 : decode cX5_note 32 = .ok (.iastore, 1) := by decide +kernel
theorem dX5_note_33 : decode cX5_note 33 = .ok (.iinc 1 1, 3) := by decide +kernel
theorem dX5_note_36 : decode cX5_note 36 = .ok (.goto (-25), 3) := by decide +kernel
theorem dX5_note_39 : decode cX5_note 39 = .ok (.aload_n 0, 1) := by decide +kernel
theorem dX5_note_40 : decode cX5_note 40 = .ok (.dup, 1) := by decide +kernel
theorem dX5_note_41 : decode cX5_note 41 = .ok (.getfield 114, 3) := by decide +kernel
theorem dX5_note_44 : decode cX5_note 44 = .ok (.iconst 1, 1) := by decide +kernel
theorem dX5_note_45 : decode cX5_note 45 = .ok (.isub, 1) := by decide +kernel
theorem dX5_note_46 : decode cX5_note 46 = .ok (.putfield 114, 3) := by decide +kernel
theorem dX5_note_49 : decode cX5_note 49 = .ok (.iconst 0, 1) := by decide +kernel
theorem dX5_note_50 : decode cX5_note 50 = .ok (.istore_n 1, 1) := by decide +kernel
theorem dX5_note_51 : decode cX5_note 51 = .ok (.iload_n 1, 1) := by decide +kernel
theorem dX5_note_52 : decode cX5_note 52 = .ok (.bipush 17, 2) := by decide +kernel
theorem dX5_note_54 : decode cX5_note 54 = .ok (.if_icmp .ge 29, 3) := by decide +kernel
theorem dX5_note_57 : decode cX5_note 57 = .ok (.aload_n 0, 1) := by decide +kernel
theorem dX5_note_58 : decode cX5_note 58 = .ok (.getfield 37, 3) := by decide +kernel
theorem dX5_note_61 : decode cX5_note 61 = .ok (.bipush 17, 2) := by decide +kernel
theorem dX5_note_63 : decode cX5_note 63 = .ok (.aload_n 0, 1) := by decide +kernel
theorem dX5_note_64 : decode cX5_note 64 = .ok (.getfield 114, 3) := by decide +kernel
theorem dX5_note_67 : decode cX5_note 67 = .ok (.imul, 1) := by decide +kernel
theorem dX5_note_68 : decode cX5_note 68 = .ok (.iload_n 1, 1) := by decide +kernel
theorem dX5_note_69 : decode cX5_note 69 = .ok (.iadd, 1) := by decide +kernel
theorem dX5_note_70 : decode cX5_note 70 = .ok (.aload_n 0, 1) := by decide +kernel
theorem dX5_note_71 : decode cX5_note 71 = .ok (.getfield 31, 3) := by decide +kernel
theorem dX5_note_74 : decode cX5_note 74 = .ok (.iload_n 1, 1) := by decide +kernel
theorem dX5_note_75 : decode cX5_note 75 = .ok (.iaload, 1) := by decide +kernel
theorem dX5_note_76 : decode cX5_note 76 = .ok (.iastore, 1) := by decide +kernel
theorem dX5_note_77 : decode cX5_note 77 = .ok (.iinc 1 1, 3) := by decide +kernel
theorem dX5_note_80 : decode cX5_note 80 = .ok (.goto (-29), 3) := by decide +kernel
theorem dX5_note_83 : decode cX5_note 83 = .ok (.aload_n 0, 1) := by decide +kernel
theorem dX5_note_84 : decode cX5_note 84 = .ok (.dup, 1) := by decide +kernel
theorem dX5_note_85 : decode cX5_note 85 = .ok (.getfield 114, 3) := by decide +kernel
theorem dX5_note_88 : decode cX5_note 88 = .ok (.iconst 1, 1) := by decide +kernel
theorem dX5_note_89 : decode cX5_note 89 = .ok (.iadd, 1) := by decide +kernel
theorem dX5_note_90 : decode cX5_note 90 = .ok (.putfield 114, 3) := by decide +kernel
theorem dX5_note_93 : decode cX5_note 93 = .ok (.return_, 1) := by decide +kernel
set_option maxRecDepth 20000 in
theorem ggX5_go_X5_forbids : GoodIn wsX5_go wsX5_forbids := goodIn_r _ [5, 6, 7, 8, 9, 10, 11, 12, 4, 13, 14, 15, 16, 17, 18, 19, 20, 21, 22, 23, 24, 25, 29, 30, 31, 32, 33, 34, 35, 36, 37, 38, 39, 40, 41, 42, 43, 44, 45, 46, 47, 48, 49, 50, 51, 52, 53, 54, 55, 56, 57, 58, 59, 60, 61] (by decide +kernel) (by decide +kernel)
set_option maxRecDepth 20000 in
theorem gX5_go_X5_forbids : GoodIn wsX5_go (wsV RX5 130 RX5 yX5_forbids wsX5_forbids) := goodIn_app (goodIn_of _ (by decide +kernel)) ggX5_go_X5_forbids
set_option maxRecDepth 20000 in
theorem ggX5_go_X5_many : GoodIn wsX5_go wsX5_many := goodIn_r _ [28] (by decide +kernel) (by decide +kernel)
set_option maxRecDepth 20000 in
theorem gX5_go_X5_many : GoodIn wsX5_go (va_wsS RX5 161 yX5_many wsX5_many) := goodIn_app (goodIn_of _ (by decide +kernel)) ggX5_go_X5_many
set_option maxRecDepth 20000 in
theorem ggX5_go_X5_toStone : GoodIn wsX5_go wsX5_toStone := goodIn_r _ [13, 14, 15, 16, 4, 17] (by decide +kernel) (by decide +kernel)
set_option maxRecDepth 20000 in
theorem gX5_go_X5_toStone : GoodIn wsX5_go (va_wsS RX5 119 yX5_toStone wsX5_toStone) := goodIn_app (goodIn_of _ (by decide +kernel)) ggX5_go_X5_toStone
theorem dX5_go_0 : decode cX5_go 0 = .ok (.aload_n 1, 1) := by decide +kernel
theorem dX5_go_1 : decode cX5_go 1 = .ok (.bipush 16, 2) := by decide +kernel
theorem dX5_go_3 : decode cX5_go 3 = .ok (.dup2, 1) := by decide +kernel
theorem dX5_go_4 : decode cX5_go 4 = .ok (.iaload, 1) := by decide +kernel
theorem dX5_go_5 : decode cX5_go 5 = .ok (.aload_n 0, 1) := by decide +kernel
theorem dX5_go_6 : decode cX5_go 6 = .ok (.aload_n 1, 1) := by decide +kernel
theorem dX5_go_7 : decode cX5_go 7 = .ok (.iload_n 2, 1) := by decide +kernel
theorem dX5_go_8 : decode cX5_go 8 = .ok (.iload_n 3, 1) := by decide +kernel
theorem dX5_go_9 : decode cX5_go 9 = .ok (.invokevirtual 130, 3) := by decide +kernel
theorem dX5_go_12 : decode cX5_go 12 = .ok (.invokestatic 161, 3) := by decide +kernel
theorem dX5_go_15 : decode cX5_go 15 = .ok (.iadd, 1) := by decide +kernel
theorem dX5_go_16 : decode cX5_go 16 = .ok (.iastore, 1) := by decide +kernel
theorem dX5_go_17 : decode cX5_go 17 = .ok (.aload_n 1, 1) := by decide +kernel
theorem dX5_go_18 : decode cX5_go 18 = .ok (.iconst 0, 1) := by decide +kernel
theorem dX5_go_19 : decode cX5_go 19 = .ok (.iload_n 2, 1) := by decide +kernel
theorem dX5_go_20 : decode cX5_go 20 = .ok (.iadd, 1) := by decide +kernel
theorem dX5_go_21 : decode cX5_go 21 = .ok (.aload_n 1, 1) := by decide +kernel
theorem dX5_go_22 : decode cX5_go 22 = .ok (.iload_n 2, 1) := by decide +kernel
theorem dX5_go_23 : decode cX5_go 23 = .ok (.iload_n 3, 1) := by decide +kernel
theorem dX5_go_24 : decode cX5_go 24 = .ok (.invokestatic 119, 3) := by decide +kernel
theorem dX5_go_27 : decode cX5_go 27 = .ok (.iastore, 1) := by decide +kernel
theorem dX5_go_28 : decode cX5_go 28 = .ok (.aload_n 1, 1) := by decide +kernel
theorem dX5_go_29 : decode cX5_go 29 = .ok (.bipush 15, 2) := by decide +kernel
theorem dX5_go_31 : decode cX5_go 31 = .ok (.dup2, 1) := by decide +kernel
theorem dX5_go_32 : decode cX5_go 32 = .ok (.iaload, 1) := by decide +kernel
theorem dX5_go_33 : decode cX5_go 33 = .ok (.iconst 1, 1) := by decide +kernel
theorem dX5_go_34 : decode cX5_go 34 = .ok (.iadd, 1) := by decide +kernel
theorem dX5_go_35 : decode cX5_go 35 = .ok (.iastore, 1) := by decide +kernel
theorem dX5_go_36 : decode cX5_go 36 = .ok (.return_, 1) := by decide +kernel
set_option maxRecDepth 20000 in
theorem ggX5_step_X5_noStep : GoodIn wsX5_step wsX5_noStep := goodIn_r _ [7, 2, 8, 9, 10, 6, 11, 12, 13, 14, 15, 16, 17, 18, 19, 57, 58, 59, 60, 61, 62, 63, 64, 65, 66, 67, 68, 69, 70, 71, 72, 73, 74, 75, 76, 77, 78, 79, 80, 81, 82, 83, 84, 85, 86, 87, 88, 89] (by decide +kernel) (by decide +kernel)
set_option maxRecDepth 20000 in
theorem gX5_step_X5_noStep : GoodIn wsX5_step (wsV RX5 154 RX5 yX5_noStep wsX5_noStep) := goodIn_app (goodIn_of _ (by decide +kernel)) ggX5_step_X5_noStep
set_option maxRecDepth 20000 in
theorem ggX5_step_X5_isBalking : GoodIn wsX5_step wsX5_isBalking := goodIn_r _ [23, 24, 25, 26, 6, 27, 28, 29, 30, 31, 32, 16, 17, 18, 19, 13, 14, 15, 33, 34, 35, 36, 12, 37, 38, 39, 40, 41, 42, 43, 57, 58, 59, 60, 61, 62, 63, 64, 65, 66, 67, 68, 69, 70, 71, 72, 73, 74, 75, 76, 77, 78, 79, 80, 81, 82, 83, 84, 85, 86, 87, 88, 89] (by decide +kernel) (by decide +kernel)
set_option maxRecDepth 20000 in
theorem gX5_step_X5_isBalking : GoodIn wsX5_step (wsV RX5 164 RX5 yX5_isBalking wsX5_isBalking) := goodIn_app (goodIn_of _ (by decide +kernel)) ggX5_step_X5_isBalking
set_option maxRecDepth 20000 in
theorem ggX5_step_X5_note : GoodIn wsX5_step wsX5_note := goodIn_r _ [47, 48, 49, 2, 57, 58, 59, 60, 61, 62, 63, 64, 65, 66, 67, 68, 69, 70, 71, 72, 73, 74, 75, 76, 77, 78, 79, 80, 81, 82, 83, 84, 85, 86, 87, 88, 89] (by decide +kernel) (by decide +kernel)
set_option maxRecDepth 20000 in
theorem gX5_step_X5_note : GoodIn wsX5_step (wsV RX5 168 RX5 yX5_note wsX5_note) := goodIn_app (goodIn_of _ (by decide +kernel)) ggX5_step_X5_note
set_option maxRecDepth 20000 in
theorem ggX5_step_X5_go : GoodIn wsX5_step wsX5_go := goodIn_r _ [53, 24, 25, 26, 6, 27, 28, 29, 30, 31, 32, 16, 17, 18, 19, 13, 14, 15, 33, 34, 35, 36, 12, 37, 38, 39, 54, 55, 56, 57, 58, 59, 60, 61, 62, 63, 64, 65, 66, 67, 68, 69, 70, 71, 72, 73, 74, 75, 76, 77, 78, 79, 80, 81, 82, 83, 84, 85, 86, 87, 88, 89] (by decide +kernel) (by decide +kernel)
set_option maxRecDepth 20000 in
theorem gX5_step_X5_go : GoodIn wsX5_step (wsV RX5 171 RX5 yX5_go wsX5_go) := goodIn_app (goodIn_of _ (by decide +kernel)) ggX5_step_X5_go
theorem dX5_step_0 : decode cX5_step 0 = .ok (.aload_n 0, 1) := by decide +kernel
theorem dX5_step_1 : decode cX5_step 1 = .ok (.iconst 0, 1) := by decide +kernel
theorem dX5_step_2 : decode cX5_step 2 = .ok (.putfield 68, 3) := by decide +kernel
theorem dX5_step_5 : decode cX5_step 5 = .ok (.aload_n 0, 1) := by decide +kernel
theorem dX5_step_6 : decode cX5_step 6 = .ok (.iload_n 1, 1) := by decide +kernel
theorem dX5_step_7 : decode cX5_step 7 = .ok (.iload_n 2, 1) := by decide +kernel
theorem dX5_step_8 : decode cX5_step 8 = .ok (.invokevirtual 154, 3) := by decide +kernel
theorem dX5_step_11 : decode cX5_step 11 = .ok (.istore_n 3, 1) := by decide +kernel
theorem dX5_step_12 : decode cX5_step 12 = .ok (.iload_n 3, 1) := by decide +kernel
theorem dX5_step_13 : decode cX5_step 13 = .ok (.ifCond .eq 5, 3) := by decide +kernel
theorem dX5_step_16 : decode cX5_step 16 = .ok (.iload_n 3, 1) := by decide +kernel
theorem dX5_step_17 : decode cX5_step 17 = .ok (.ireturn, 1) := by decide +kernel
theorem dX5_step_18 : decode cX5_step 18 = .ok (.aload_n 0, 1) := by decide +kernel
theorem dX5_step_19 : decode cX5_step 19 = .ok (.aload_n 0, 1) := by decide +kernel
theorem dX5_step_20 : decode cX5_step 20 = .ok (.getfield 31, 3) := by decide +kernel
theorem dX5_step_23 : decode cX5_step 23 = .ok (.iload_n 1, 1) := by decide +kernel
theorem dX5_step_24 : decode cX5_step 24 = .ok (.iload_n 2, 1) := by decide +kernel
theorem dX5_step_25 : decode cX5_step 25 = .ok (.invokevirtual 164, 3) := by decide +kernel
theorem dX5_step_28 : decode cX5_step 28 = .ok (.ifCond .eq 6, 3) := by decide +kernel
theorem dX5_step_31 : decode cX5_step 31 = .ok (.bipush (-3), 2) := by decide +kernel
theorem dX5_step_33 : decode cX5_step 33 = .ok (.ireturn, 1) := by decide +kernel
theorem dX5_step_34 : decode cX5_step 34 = .ok (.aload_n 0, 1) := by decide +kernel
theorem dX5_step_35 : decode cX5_step 35 = .ok (.invokevirtual 168, 3) := by decide +kernel
theorem dX5_step_38 : decode cX5_step 38 = .ok (.aload_n 0, 1) := by decide +kernel
theorem dX5_step_39 : decode cX5_step 39 = .ok (.aload_n 0, 1) := by decide +kernel
theorem dX5_step_40 : decode cX5_step 40 = .ok (.getfield 31, 3) := by decide +kernel
theorem dX5_step_43 : decode cX5_step 43 = .ok (.iload_n 1, 1) := by decide +kernel
theorem dX5_step_44 : decode cX5_step 44 = .ok (.iload_n 2, 1) := by decide +kernel
theorem dX5_step_45 : decode cX5_step 45 = .ok (.invokevirtual 171, 3) := by decide +kernel
theorem dX5_step_48 : decode cX5_step 48 = .ok (.aload_n 0, 1) := by decide +kernel
theorem dX5_step_49 : decode cX5_step 49 = .ok (.getfield 31, 3) := by decide +kernel
theorem dX5_step_52 : decode cX5_step 52 = .ok (.iconst 0, 1) := by decide +kernel
theorem dX5_step_53 : decode cX5_step 53 = .ok (.iload_n 1, 1) := by decide +kernel
theorem dX5_step_54 : decode cX5_step 54 = .ok (.iadd, 1) := by decide +kernel
theorem dX5_step_55 : decode cX5_step 55 = .ok (.iaload, 1) := by decide +kernel
theorem dX5_step_56 : decode cX5_step 56 = .ok (.ireturn, 1) := by decide +kernel
set_option maxRecDepth 20000 in
theorem ggX5_pause_X5_note : GoodIn wsX5_pause wsX5_note := goodIn_r _ [7, 8, 9, 2, 10, 11, 12, 13, 14, 15, 16, 17, 18, 19, 20, 21, 22, 23, 24, 25, 26, 27, 28, 29, 30, 31, 32, 33, 34, 35, 36, 37, 38, 39, 40, 41, 42] (by decide +kernel) (by decide +kernel)
set_option maxRecDepth 20000 in
theorem gX5_pause_X5_note : GoodIn wsX5_pause (wsV RX5 168 RX5 yX5_note wsX5_note) := goodIn_app (goodIn_of _ (by decide +kernel)) ggX5_pause_X5_note
theorem dX5_pause_0 : decode cX5_pause 0 = .ok (.aload_n 0, 1) := by decide +kernel
theorem dX5_pause_1 : decode cX5_pause 1 = .ok (.iconst 0, 1) := by decide +kernel
theorem dX5_pause_2 : decode cX5_pause 2 = .ok (.putfield 68, 3) := by decide +kernel
theorem dX5_pause_5 : decode cX5_pause 5 = .ok (.aload_n 0, 1) := by decide +kernel
theorem dX5_pause_6 : decode cX5_pause 6 = .ok (.invokevirtual 168, 3) := by decide +kernel
theorem dX5_pause_9 : decode cX5_pause 9 = .ok (.aload_n 0, 1) := by decide +kernel
theorem dX5_pause_10 : decode cX5_pause 10 = .ok (.getfield 31, 3) := by decide +kernel
theorem dX5_pause_13 : decode cX5_pause 13 = .ok (.bipush 15, 2) := by decide +kernel
theorem dX5_pause_15 : decode cX5_pause 15 = .ok (.dup2, 1) := by decide +kernel
theorem dX5_pause_16 : decode cX5_pause 16 = .ok (.iaload, 1) := by decide +kernel
theorem dX5_pause_17 : decode cX5_pause 17 = .ok (.iconst 1, 1) := by decide +kernel
theorem dX5_pause_18 : decode cX5_pause 18 = .ok (.iadd, 1) := by decide +kernel
theorem dX5_pause_19 : decode cX5_pause 19 = .ok (.iastore, 1) := by decide +kernel
theorem dX5_pause_20 : decode cX5_pause 20 = .ok (.aload_n 0, 1) := by decide +kernel
theorem dX5_pause_21 : decode cX5_pause 21 = .ok (.getfield 31, 3) := by decide +kernel
theorem dX5_pause_24 : decode cX5_pause 24 = .ok (.bipush 15, 2) := by decide +kernel
theorem dX5_pause_26 : decode cX5_pause 26 = .ok (.iaload, 1) := by decide +kernel
theorem dX5_pause_27 : decode cX5_pause 27 = .ok (.ireturn, 1) := by decide +kernel
set_option maxRecDepth 20000 in
theorem ggX5_show_X5_noMule : GoodIn wsX5_show wsX5_noMule := goodIn_r _ [7, 8, 9, 10, 6, 11, 33, 34, 35, 36, 37, 38, 39, 40, 41, 42, 43, 44, 45, 46, 47, 48, 49, 50, 51, 52, 53, 54, 55, 56, 57, 58, 59, 60, 61, 62, 63, 64, 65] (by decide +kernel) (by decide +kernel)
set_option maxRecDepth 20000 in
theorem gX5_show_X5_noMule : GoodIn wsX5_show (wsV RX5 151 RX5 yX5_noMule wsX5_noMule) := goodIn_app (goodIn_of _ (by decide +kernel)) ggX5_show_X5_noMule
set_option maxRecDepth 20000 in
theorem ggX5_show_X5_noArticle : GoodIn wsX5_show wsX5_noArticle := goodIn_r _ [15, 16, 9, 10, 6, 11, 33, 34, 35, 36, 37, 38, 39, 40, 41, 42, 43, 44, 45, 46, 47, 48, 49, 50, 51, 52, 53, 54, 55, 56, 57, 58, 59, 60, 61, 62, 63, 64, 65] (by decide +kernel) (by decide +kernel)
set_option maxRecDepth 20000 in
theorem gX5_show_X5_noArticle : GoodIn wsX5_show (wsV RX5 144 RX5 yX5_noArticle wsX5_noArticle) := goodIn_app (goodIn_of _ (by decide +kernel)) ggX5_show_X5_noArticle
set_option maxRecDepth 20000 in
theorem ggX5_show_X5_knows : GoodIn wsX5_show wsX5_knows := goodIn_r _ [20, 16, 33, 34, 35, 36, 37, 38, 39, 40, 41, 42, 43, 44, 45, 46, 47, 48, 49, 50, 51, 52, 53, 54, 55, 56, 57, 58, 59, 60, 61, 62, 63, 64, 65] (by decide +kernel) (by decide +kernel)
set_option maxRecDepth 20000 in
theorem gX5_show_X5_knows : GoodIn wsX5_show (wsV RX5 133 RX5 yX5_knows wsX5_knows) := goodIn_app (goodIn_of _ (by decide +kernel)) ggX5_show_X5_knows
set_option maxRecDepth 20000 in
theorem ggX5_show_X5_has : GoodIn wsX5_show wsX5_has := goodIn_r _ [23] (by decide +kernel) (by decide +kernel)
set_option maxRecDepth 20000 in
theorem gX5_show_X5_has : GoodIn wsX5_show (va_wsS RX5 140 yX5_has wsX5_has) := goodIn_app (goodIn_of _ (by decide +kernel)) ggX5_show_X5_has
set_option maxRecDepth 20000 in
theorem ggX5_show_X5_note : GoodIn wsX5_show wsX5_note := goodIn_r _ [27, 28, 29, 2, 33, 34, 35, 36, 37, 38, 39, 40, 41, 42, 43, 44, 45, 46, 47, 48, 49, 50, 51, 52, 53, 54, 55, 56, 57, 58, 59, 60, 61, 62, 63, 64, 65] (by decide +kernel) (by decide +kernel)
set_option maxRecDepth 20000 in
theorem gX5_show_X5_note : GoodIn wsX5_show (wsV RX5 168 RX5 yX5_note wsX5_note) := goodIn_app (goodIn_of _ (by decide +kernel)) ggX5_show_X5_note
set_option maxRecDepth 20000 in
theorem ggX5_show_X5_many : GoodIn wsX5_show wsX5_many := goodIn_r _ [32] (by decide +kernel) (by decide +kernel)
set_option maxRecDepth 20000 in
theorem gX5_show_X5_many : GoodIn wsX5_show (va_wsS RX5 161 yX5_many wsX5_many) := goodIn_app (goodIn_of _ (by decide +kernel)) ggX5_show_X5_many
theorem dX5_show_0 : decode cX5_show 0 = .ok (.aload_n 0, 1) := by decide +kernel
theorem dX5_show_1 : decode cX5_show 1 = .ok (.iconst 0, 1) := by decide +kernel
theorem dX5_show_2 : decode cX5_show 2 = .ok (.putfield 68, 3) := by decide +kernel
theorem dX5_show_5 : decode cX5_show 5 = .ok (.aload_n 0, 1) := by decide +kernel
theorem dX5_show_6 : decode cX5_show 6 = .ok (.iload_n 1, 1) := by decide +kernel
theorem dX5_show_7 : decode cX5_show 7 = .ok (.invokevirtual 151, 3) := by decide +kernel
theorem dX5_show_10 : decode cX5_show 10 = .ok (.ifCond .ne 19, 3) := by decide +kernel
theorem dX5_show_13 : decode cX5_show 13 = .ok (.aload_n 0, 1) := by decide +kernel
theorem dX5_show_14 : decode cX5_show 14 = .ok (.iload_n 2, 1) := by decide +kernel
theorem dX5_show_15 : decode cX5_show 15 = .ok (.invokevirtual 151, 3) := by decide +kernel
theorem dX5_show_18 : decode cX5_show 18 = .ok (.ifCond .ne 11, 3) := by decide +kernel
theorem dX5_show_21 : decode cX5_show 21 = .ok (.aload_n 0, 1) := by decide +kernel
theorem dX5_show_22 : decode cX5_show 22 = .ok (.iload_n 3, 1) := by decide +kernel
theorem dX5_show_23 : decode cX5_show 23 = .ok (.invokevirtual 144, 3) := by decide +kernel
theorem dX5_show_26 : decode cX5_show 26 = .ok (.ifCond .eq 5, 3) := by decide +kernel
theorem dX5_show_29 : decode cX5_show 29 = .ok (.iconst (-1), 1) := by decide +kernel
theorem dX5_show_30 : decode cX5_show 30 = .ok (.ireturn, 1) := by decide +kernel
theorem dX5_show_31 : decode cX5_show 31 = .ok (.iload_n 1, 1) := by decide +kernel
theorem dX5_show_32 : decode cX5_show 32 = .ok (.iload_n 2, 1) := by decide +kernel
theorem dX5_show_33 : decode cX5_show 33 = .ok (.if_icmp .ne 6, 3) := by decide +kernel
theorem dX5_show_36 : decode cX5_show 36 = .ok (.bipush (-2), 2) := by decide +kernel
theorem dX5_show_38 : decode cX5_show 38 = .ok (.ireturn, 1) := by decide +kernel
theorem dX5_show_39 : decode cX5_show 39 = .ok (.aload_n 0, 1) := by decide +kernel
theorem dX5_show_40 : decode cX5_show 40 = .ok (.getfield 31, 3) := by decide +kernel
theorem dX5_show_43 : decode cX5_show 43 = .ok (.iconst 0, 1) := by decide +kernel
theorem dX5_show_44 : decode cX5_show 44 = .ok (.iload_n 1, 1) := by decide +kernel
theorem dX5_show_45 : decode cX5_show 45 = .ok (.iadd, 1) := by decide +kernel
theorem dX5_show_46 : decode cX5_show 46 = .ok (.iaload, 1) := by decide +kernel
theorem dX5_show_47 : decode cX5_show 47 = .ok (.aload_n 0, 1) := by decide +kernel
theorem dX5_show_48 : decode cX5_show 48 = .ok (.getfield 31, 3) := by decide +kernel
theorem dX5_show_51 : decode cX5_show 51 = .ok (.iconst 0, 1) := by decide +kernel
theorem dX5_show_52 : decode cX5_show 52 = .ok (.iload_n 2, 1) := by decide +kernel
theorem dX5_show_53 : decode cX5_show 53 = .ok (.iadd, 1) := by decide +kernel
theorem dX5_show_54 : decode cX5_show 54 = .ok (.iaload, 1) := by decide +kernel
theorem dX5_show_55 : decode cX5_show 55 = .ok (.if_icmp .ne 35, 3) := by decide +kernel
theorem dX5_show_58 : decode cX5_show 58 = .ok (.aload_n 0, 1) := by decide +kernel
theorem dX5_show_59 : decode cX5_show 59 = .ok (.aload_n 0, 1) := by decide +kernel
theorem dX5_show_60 : decode cX5_show 60 = .ok (.getfield 31, 3) := by decide +kernel
theorem dX5_show_63 : decode cX5_show 63 = .ok (.iload_n 2, 1) := by decide +kernel
theorem dX5_show_64 : decode cX5_show 64 = .ok (.invokevirtual 133, 3) := by decide +kernel
theorem dX5_show_67 : decode cX5_show 67 = .ok (.iload_n 3, 1) := by decide +kernel
theorem dX5_show_68 : decode cX5_show 68 = .ok (.invokestatic 140, 3) := by decide +kernel
theorem dX5_show_71 : decode cX5_show 71 = .ok (.ifCond .eq 19, 3) := by decide +kernel
theorem dX5_show_74 : decode cX5_show 74 = .ok (.aload_n 0, 1) := by decide +kernel
theorem dX5_show_75 : decode cX5_show 75 = .ok (.getfield 31, 3) := by decide +kernel
theorem dX5_show_78 : decode cX5_show 78 = .ok (.bipush 10, 2) := by decide +kernel
theorem dX5_show_80 : decode cX5_show 80 = .ok (.iload_n 1, 1) := by decide +kernel
theorem dX5_show_81 : decode cX5_show 81 = .ok (.iadd, 1) := by decide +kernel
theorem dX5_show_82 : decode cX5_show 82 = .ok (.iaload, 1) := by decide +kernel
theorem dX5_show_83 : decode cX5_show 83 = .ok (.iload_n 3, 1) := by decide +kernel
theorem dX5_show_84 : decode cX5_show 84 = .ok (.invokestatic 140, 3) := by decide +kernel
theorem dX5_show_87 : decode cX5_show 87 = .ok (.ifCond .eq 6, 3) := by decide +kernel
theorem dX5_show_90 : decode cX5_show 90 = .ok (.bipush (-3), 2) := by decide +kernel
theorem dX5_show_92 : decode cX5_show 92 = .ok (.ireturn, 1) := by decide +kernel
theorem dX5_show_93 : decode cX5_show 93 = .ok (.aload_n 0, 1) := by decide +kernel
theorem dX5_show_94 : decode cX5_show 94 = .ok (.invokevirtual 168, 3) := by decide +kernel
theorem dX5_show_97 : decode cX5_show 97 = .ok (.aload_n 0, 1) := by decide +kernel
theorem dX5_show_98 : decode cX5_show 98 = .ok (.getfield 31, 3) := by decide +kernel
theorem dX5_show_101 : decode cX5_show 101 = .ok (.bipush 10, 2) := by decide +kernel
theorem dX5_show_103 : decode cX5_show 103 = .ok (.iload_n 1, 1) := by decide +kernel
theorem dX5_show_104 : decode cX5_show 104 = .ok (.iadd, 1) := by decide +kernel
theorem dX5_show_105 : decode cX5_show 105 = .ok (.dup2, 1) := by decide +kernel
theorem dX5_show_106 : decode cX5_show 106 = .ok (.iaload, 1) := by decide +kernel
theorem dX5_show_107 : decode cX5_show 107 = .ok (.iconst 1, 1) := by decide +kernel
theorem dX5_show_108 : decode cX5_show 108 = .ok (.iload_n 3, 1) := by decide +kernel
theorem dX5_show_109 : decode cX5_show 109 = .ok (.ishl, 1) := by decide +kernel
theorem dX5_show_110 : decode cX5_show 110 = .ok (.ior, 1) := by decide +kernel
theorem dX5_show_111 : decode cX5_show 111 = .ok (.iastore, 1) := by decide +kernel
theorem dX5_show_112 : decode cX5_show 112 = .ok (.aload_n 0, 1) := by decide +kernel
theorem dX5_show_113 : decode cX5_show 113 = .ok (.getfield 31, 3) := by decide +kernel
theorem dX5_show_116 : decode cX5_show 116 = .ok (.bipush 10, 2) := by decide +kernel
theorem dX5_show_118 : decode cX5_show 118 = .ok (.iload_n 1, 1) := by decide +kernel
theorem dX5_show_119 : decode cX5_show 119 = .ok (.iadd, 1) := by decide +kernel
theorem dX5_show_120 : decode cX5_show 120 = .ok (.iaload, 1) := by decide +kernel
theorem dX5_show_121 : decode cX5_show 121 = .ok (.invokestatic 161, 3) := by decide +kernel
theorem dX5_show_124 : decode cX5_show 124 = .ok (.ireturn, 1) := by decide +kernel
set_option maxRecDepth 20000 in
theorem ggX5_sell_X5_noMule : GoodIn wsX5_sell wsX5_noMule := goodIn_r _ [7, 8, 9, 10, 6, 11, 18, 19, 20, 21, 22, 23, 24, 25, 26, 27, 28, 29, 30, 31, 32, 33, 34, 35, 36, 37, 38, 39, 40, 41, 42, 43, 44, 45, 46, 47, 48, 49, 50] (by decide +kernel) (by decide +kernel)
set_option maxRecDepth 20000 in
theorem gX5_sell_X5_noMule : GoodIn wsX5_sell (wsV RX5 151 RX5 yX5_noMule wsX5_noMule) := goodIn_app (goodIn_of _ (by decide +kernel)) ggX5_sell_X5_noMule
set_option maxRecDepth 20000 in
theorem ggX5_sell_X5_note : GoodIn wsX5_sell wsX5_note := goodIn_r _ [15, 16, 17, 2, 18, 19, 20, 21, 22, 23, 24, 25, 26, 27, 28, 29, 30, 31, 32, 33, 34, 35, 36, 37, 38, 39, 40, 41, 42, 43, 44, 45, 46, 47, 48, 49, 50] (by decide +kernel) (by decide +kernel)
set_option maxRecDepth 20000 in
theorem gX5_sell_X5_note : GoodIn wsX5_sell (wsV RX5 168 RX5 yX5_note wsX5_note) := goodIn_app (goodIn_of _ (by decide +kernel)) ggX5_sell_X5_note
theorem dX5_sell_0 : decode cX5_sell 0 = .ok (.aload_n 0, 1) := by decide +kernel
theorem dX5_sell_1 : decode cX5_sell 1 = .ok (.iconst 0, 1) := by decide +kernel
theorem dX5_sell_2 : decode cX5_sell 2 = .ok (.putfield 68, 3) := by decide +kernel
theorem dX5_sell_5 : decode cX5_sell 5 = .ok (.aload_n 0, 1) := by decide +kernel
theorem dX5_sell_6 : decode cX5_sell 6 = .ok (.iload_n 1, 1) := by decide +kernel
theorem dX5_sell_7 : decode cX5_sell 7 = .ok (.invokevirtual 151, 3) := by decide +kernel
theorem dX5_sell_10 : decode cX5_sell 10 = .ok (.ifCond .eq 5, 3) := by decide +kernel
theorem dX5_sell_13 : decode cX5_sell 13 = .ok (.iconst (-1), 1) := by decide +kernel
theorem dX5_sell_14 : decode cX5_sell 14 = .ok (.ireturn, 1) := by decide +kernel
theorem dX5_sell_15 : decode cX5_sell 15 = .ok (.aload_n 0, 1) := by decide +kernel
theorem dX5_sell_16 : decode cX5_sell 16 = .ok (.getfield 31, 3) := by decide +kernel
theorem dX5_sell_19 : decode cX5_sell 19 = .ok (.iconst 5, 1) := by decide +kernel
theorem dX5_sell_20 : decode cX5_sell 20 = .ok (.iload_n 1, 1) := by decide +kernel
theorem dX5_sell_21 : decode cX5_sell 21 = .ok (.iadd, 1) := by decide +kernel
theorem dX5_sell_22 : decode cX5_sell 22 = .ok (.iaload, 1) := by decide +kernel
theorem dX5_sell_23 : decode cX5_sell 23 = .ok (.istore_n 2, 1) := by decide +kernel
theorem dX5_sell_24 : decode cX5_sell 24 = .ok (.iload_n 2, 1) := by decide +kernel
theorem dX5_sell_25 : decode cX5_sell 25 = .ok (.iconst 3, 1) := by decide +kernel
theorem dX5_sell_26 : decode cX5_sell 26 = .ok (.if_icmp .ne 6, 3) := by decide +kernel
theorem dX5_sell_29 : decode cX5_sell 29 = .ok (.bipush (-3), 2) := by decide +kernel
theorem dX5_sell_31 : decode cX5_sell 31 = .ok (.ireturn, 1) := by decide +kernel
theorem dX5_sell_32 : decode cX5_sell 32 = .ok (.aload_n 0, 1) := by decide +kernel
theorem dX5_sell_33 : decode cX5_sell 33 = .ok (.invokevirtual 168, 3) := by decide +kernel
theorem dX5_sell_36 : decode cX5_sell 36 = .ok (.aload_n 0, 1) := by decide +kernel
theorem dX5_sell_37 : decode cX5_sell 37 = .ok (.getfield 31, 3) := by decide +kernel
theorem dX5_sell_40 : decode cX5_sell 40 = .ok (.iconst 5, 1) := by decide +kernel
theorem dX5_sell_41 : decode cX5_sell 41 = .ok (.iload_n 1, 1) := by decide +kernel
theorem dX5_sell_42 : decode cX5_sell 42 = .ok (.iadd, 1) := by decide +kernel
theorem dX5_sell_43 : decode cX5_sell 43 = .ok (.iconst 3, 1) := by decide +kernel
theorem dX5_sell_44 : decode cX5_sell 44 = .ok (.iastore, 1) := by decide +kernel
theorem dX5_sell_45 : decode cX5_sell 45 = .ok (.iload_n 2, 1) := by decide +kernel
theorem dX5_sell_46 : decode cX5_sell 46 = .ok (.ireturn, 1) := by decide +kernel
set_option maxRecDepth 20000 in
theorem ggX5_forget_X5_noMule : GoodIn wsX5_forget wsX5_noMule := goodIn_r _ [7, 8, 9, 10, 6, 11, 21, 22, 23, 24, 25, 26, 27, 28, 29, 30, 31, 32, 33, 34, 35, 36, 37, 38, 39, 40, 41, 42, 43, 44, 45, 46, 47, 48, 49, 50, 51, 52, 53] (by decide +kernel) (by decide +kernel)
set_option maxRecDepth 20000 in
theorem gX5_forget_X5_noMule : GoodIn wsX5_forget (wsV RX5 151 RX5 yX5_noMule wsX5_noMule) := goodIn_app (goodIn_of _ (by decide +kernel)) ggX5_forget_X5_noMule
set_option maxRecDepth 20000 in
theorem ggX5_forget_X5_many : GoodIn wsX5_forget wsX5_many := goodIn_r _ [14] (by decide +kernel) (by decide +kernel)
set_option maxRecDepth 20000 in
theorem gX5_forget_X5_many : GoodIn wsX5_forget (va_wsS RX5 161 yX5_many wsX5_many) := goodIn_app (goodIn_of _ (by decide +kernel)) ggX5_forget_X5_many
set_option maxRecDepth 20000 in
theorem ggX5_forget_X5_note : GoodIn wsX5_forget wsX5_note := goodIn_r _ [18, 19, 20, 2, 21, 22, 23, 24, 25, 26, 27, 28, 29, 30, 31, 32, 33, 34, 35, 36, 37, 38, 39, 40, 41, 42, 43, 44, 45, 46, 47, 48, 49, 50, 51, 52, 53] (by decide +kernel) (by decide +kernel)
set_option maxRecDepth 20000 in
theorem gX5_forget_X5_note : GoodIn wsX5_forget (wsV RX5 168 RX5 yX5_note wsX5_note) := goodIn_app (goodIn_of _ (by decide +kernel)) ggX5_forget_X5_note
theorem dX5_forget_0 : decode cX5_forget 0 = .ok (.aload_n 0, 1) := by decide +kernel
theorem dX5_forget_1 : decode cX5_forget 1 = .ok (.iconst 0, 1) := by decide +kernel
theorem dX5_forget_2 : decode cX5_forget 2 = .ok (.putfield 68, 3) := by decide +kernel
theorem dX5_forget_5 : decode cX5_forget 5 = .ok (.aload_n 0, 1) := by decide +kernel
theorem dX5_forget_6 : decode cX5_forget 6 = .ok (.iload_n 1, 1) := by decide +kernel
theorem dX5_forget_7 : decode cX5_forget 7 = .ok (.invokevirtual 151, 3) := by decide +kernel
theorem dX5_forget_10 : decode cX5_forget 10 = .ok (.ifCond .eq 5, 3) := by decide +kernel
theorem dX5_forget_13 : decode cX5_forget 13 = .ok (.iconst (-1), 1) := by decide +kernel
theorem dX5_forget_14 : decode cX5_forget 14 = .ok (.ireturn, 1) := by decide +kernel
theorem dX5_forget_15 : decode cX5_forget 15 = .ok (.aload_n 0, 1) := by decide +kernel
theorem dX5_forget_16 : decode cX5_forget 16 = .ok (.getfield 31, 3) := by decide +kernel
theorem dX5_forget_19 : decode cX5_forget 19 = .ok (.bipush 10, 2) := by decide +kernel
theorem dX5_forget_21 : decode cX5_forget 21 = .ok (.iload_n 1, 1) := by decide +kernel
theorem dX5_forget_22 : decode cX5_forget 22 = .ok (.iadd, 1) := by decide +kernel
theorem dX5_forget_23 : decode cX5_forget 23 = .ok (.iaload, 1) := by decide +kernel
theorem dX5_forget_24 : decode cX5_forget 24 = .ok (.invokestatic 161, 3) := by decide +kernel
theorem dX5_forget_27 : decode cX5_forget 27 = .ok (.istore_n 2, 1) := by decide +kernel
theorem dX5_forget_28 : decode cX5_forget 28 = .ok (.iload_n 2, 1) := by decide +kernel
theorem dX5_forget_29 : decode cX5_forget 29 = .ok (.ifCond .ne 6, 3) := by decide +kernel
theorem dX5_forget_32 : decode cX5_forget 32 = .ok (.bipush (-3), 2) := by decide +kernel
theorem dX5_forget_34 : decode cX5_forget 34 = .ok (.ireturn, 1) := by decide +kernel
theorem dX5_forget_35 : decode cX5_forget 35 = .ok (.aload_n 0, 1) := by decide +kernel
theorem dX5_forget_36 : decode cX5_forget 36 = .ok (.invokevirtual 168, 3) := by decide +kernel
theorem dX5_forget_39 : decode cX5_forget 39 = .ok (.aload_n 0, 1) := by decide +kernel
theorem dX5_forget_40 : decode cX5_forget 40 = .ok (.getfield 31, 3) := by decide +kernel
theorem dX5_forget_43 : decode cX5_forget 43 = .ok (.bipush 10, 2) := by decide +kernel
theorem dX5_forget_45 : decode cX5_forget 45 = .ok (.iload_n 1, 1) := by decide +kernel
theorem dX5_forget_46 : decode cX5_forget 46 = .ok (.iadd, 1) := by decide +kernel
theorem dX5_forget_47 : decode cX5_forget 47 = .ok (.iconst 0, 1) := by decide +kernel
theorem dX5_forget_48 : decode cX5_forget 48 = .ok (.iastore, 1) := by decide +kernel
theorem dX5_forget_49 : decode cX5_forget 49 = .ok (.iload_n 2, 1) := by decide +kernel
theorem dX5_forget_50 : decode cX5_forget 50 = .ok (.ireturn, 1) := by decide +kernel
theorem dX5_undo_0 : decode cX5_undo 0 = .ok (.aload_n 0, 1) := by decide +kernel
theorem dX5_undo_1 : decode cX5_undo 1 = .ok (.iconst 0, 1) := by decide +kernel
theorem dX5_undo_2 : decode cX5_undo 2 = .ok (.putfield 68, 3) := by decide +kernel
theorem dX5_undo_5 : decode cX5_undo 5 = .ok (.aload_n 0, 1) := by decide +kernel
theorem dX5_undo_6 : decode cX5_undo 6 = .ok (.getfield 114, 3) := by decide +kernel
theorem dX5_undo_9 : decode cX5_undo 9 = .ok (.ifCond .ne 6, 3) := by decide +kernel
theorem dX5_undo_12 : decode cX5_undo 12 = .ok (.bipush (-3), 2) := by decide +kernel
theorem dX5_undo_14 : decode cX5_undo 14 = .ok (.ireturn, 1) := by decide +kernel
theorem dX5_undo_15 : decode cX5_undo 15 = .ok (.aload_n 0, 1) := by decide +kernel
theorem dX5_undo_16 : decode cX5_undo 16 = .ok (.dup, 1) := by decide +kernel
theorem dX5_undo_17 : decode cX5_undo 17 = .ok (.getfield 114, 3) := by decide +kernel
theorem dX5_undo_20 : decode cX5_undo 20 = .ok (.iconst 1, 1) := by decide +kernel
theorem dX5_undo_21 : decode cX5_undo 21 = .ok (.isub, 1) := by decide +kernel
theorem dX5_undo_22 : decode cX5_undo 22 = .ok (.putfield 114, 3) := by decide +kernel
theorem dX5_undo_25 : decode cX5_undo 25 = .ok (.iconst 0, 1) := by decide +kernel
theorem dX5_undo_26 : decode cX5_undo 26 = .ok (.istore_n 1, 1) := by decide +kernel
theorem dX5_undo_27 : decode cX5_undo 27 = .ok (.iload_n 1, 1) := by decide +kernel
theorem dX5_undo_28 : decode cX5_undo 28 = .ok (.bipush 17, 2) := by decide +kernel
theorem dX5_undo_30 : decode cX5_undo 30 = .ok (.if_icmp .ge 29, 3) := by decide +kernel
theorem dX5_undo_33 : decode cX5_undo 33 = .ok (.aload_n 0, 1) := by decide +kernel
theorem dX5_undo_34 : decode cX5_undo 34 = .ok (.getfield 31, 3) := by decide +kernel
theorem dX5_undo_37 : decode cX5_undo 37 = .ok (.iload_n 1, 1) := by decide +kernel
theorem dX5_undo_38 : decode cX5_undo 38 = .ok (.aload_n 0, 1) := by decide +kernel
theorem dX5_undo_39 : decode cX5_undo 39 = .ok (.getfield 37, 3) := by decide +kernel
theorem dX5_undo_42 : decode cX5_undo 42 = .ok (.bipush 17, 2) := by decide +kernel
theorem dX5_undo_44 : decode cX5_undo 44 = .ok (.aload_n 0, 1) := by decide +kernel
theorem dX5_undo_45 : decode cX5_undo 45 = .ok (.getfield 114, 3) := by decide +kernel
theorem dX5_undo_48 : decode cX5_undo 48 = .ok (.imul, 1) := by decide +kernel
theorem dX5_undo_49 : decode cX5_undo 49 = .ok (.iload_n 1, 1) := by decide +kernel
theorem dX5_undo_50 : decode cX5_undo 50 = .ok (.iadd, 1) := by decide +kernel
theorem dX5_undo_51 : decode cX5_undo 51 = .ok (.iaload, 1) := by decide +kernel
theorem dX5_undo_52 : decode cX5_undo 52 = .ok (.iastore, 1) := by decide +kernel
theorem dX5_undo_53 : decode cX5_undo 53 = .ok (.iinc 1 1, 3) := by decide +kernel
theorem dX5_undo_56 : decode cX5_undo 56 = .ok (.goto (-29), 3) := by decide +kernel
theorem dX5_undo_59 : decode cX5_undo 59 = .ok (.aload_n 0, 1) := by decide +kernel
theorem dX5_undo_60 : decode cX5_undo 60 = .ok (.getfield 114, 3) := by decide +kernel
theorem dX5_undo_63 : decode cX5_undo 63 = .ok (.ireturn, 1) := by decide +kernel
theorem dX5_begin_0 : decode cX5_begin 0 = .ok (.iconst 0, 1) := by decide +kernel
theorem dX5_begin_1 : decode cX5_begin 1 = .ok (.istore_n 1, 1) := by decide +kernel
theorem dX5_begin_2 : decode cX5_begin 2 = .ok (.iload_n 1, 1) := by decide +kernel
theorem dX5_begin_3 : decode cX5_begin 3 = .ok (.bipush 17, 2) := by decide +kernel
theorem dX5_begin_5 : decode cX5_begin 5 = .ok (.if_icmp .ge 21, 3) := by decide +kernel
theorem dX5_begin_8 : decode cX5_begin 8 = .ok (.aload_n 0, 1) := by decide +kernel
theorem dX5_begin_9 : decode cX5_begin 9 = .ok (.getfield 34, 3) := by decide +kernel
theorem dX5_begin_12 : decode cX5_begin 12 = .ok (.iload_n 1, 1) := by decide +kernel
theorem dX5_begin_13 : decode cX5_begin 13 = .ok (.aload_n 0, 1) := by decide +kernel
theorem dX5_begin_14 : decode cX5_begin 14 = .ok (.getfield 31, 3) := by decide +kernel
theorem dX5_begin_17 : decode cX5_begin 17 = .ok (.iload_n 1, 1) := by decide +kernel
theorem dX5_begin_18 : decode cX5_begin 18 = .ok (.iaload, 1) := by decide +kernel
theorem dX5_begin_19 : decode cX5_begin 19 = .ok (.iastore, 1) := by decide +kernel
theorem dX5_begin_20 : decode cX5_begin 20 = .ok (.iinc 1 1, 3) := by decide +kernel
theorem dX5_begin_23 : decode cX5_begin 23 = .ok (.goto (-21), 3) := by decide +kernel
theorem dX5_begin_26 : decode cX5_begin 26 = .ok (.return_, 1) := by decide +kernel
set_option maxRecDepth 20000 in
theorem ggX5_layWays_X5_begin : GoodIn wsX5_layWays wsX5_begin := goodIn_r _ [8, 3, 2, 41, 42, 43, 44, 45, 46, 47, 48, 49, 50, 51, 52, 53, 54, 55, 56, 57, 58, 59, 60, 61, 62, 63, 64, 65, 66, 67, 68, 69, 70, 71, 72, 73] (by decide +kernel) (by decide +kernel)
set_option maxRecDepth 20000 in
theorem gX5_layWays_X5_begin : GoodIn wsX5_layWays (wsV RX5 175 RX5 yX5_begin wsX5_begin) := goodIn_app (goodIn_of _ (by decide +kernel)) ggX5_layWays_X5_begin
set_option maxRecDepth 20000 in
theorem ggX5_layWays_X5_toStone : GoodIn wsX5_layWays wsX5_toStone := goodIn_r _ [11, 12, 13, 14, 7, 15] (by decide +kernel) (by decide +kernel)
set_option maxRecDepth 20000 in
theorem gX5_layWays_X5_toStone : GoodIn wsX5_layWays (va_wsS RX5 119 yX5_toStone wsX5_toStone) := goodIn_app (goodIn_of _ (by decide +kernel)) ggX5_layWays_X5_toStone
set_option maxRecDepth 20000 in
theorem ggX5_layWays_X5_forbids : GoodIn wsX5_layWays wsX5_forbids := goodIn_r _ [19, 20, 21, 22, 23, 24, 9, 10, 7, 11, 12, 13, 14, 15, 25, 26, 27, 28, 29, 30, 31, 32, 41, 42, 43, 44, 45, 46, 47, 48, 49, 50, 51, 52, 53, 54, 55, 56, 57, 58, 59, 60, 61, 62, 63, 64, 65, 66, 67, 68, 69, 70, 71, 72, 73] (by decide +kernel) (by decide +kernel)
set_option maxRecDepth 20000 in
theorem gX5_layWays_X5_forbids : GoodIn wsX5_layWays (wsV RX5 130 RX5 yX5_forbids wsX5_forbids) := goodIn_app (goodIn_of _ (by decide +kernel)) ggX5_layWays_X5_forbids
set_option maxRecDepth 20000 in
theorem ggX5_layWays_X5_isBalking : GoodIn wsX5_layWays wsX5_isBalking := goodIn_r _ [36, 16, 17, 18, 7, 19, 20, 21, 22, 23, 24, 9, 10, 11, 12, 13, 14, 15, 25, 26, 27, 28, 29, 30, 31, 32, 37, 38, 39, 40, 41, 42, 43, 44, 45, 46, 47, 48, 49, 50, 51, 52, 53, 54, 55, 56, 57, 58, 59, 60, 61, 62, 63, 64, 65, 66, 67, 68, 69, 70, 71, 72, 73] (by decide +kernel) (by decide +kernel)
set_option maxRecDepth 20000 in
theorem gX5_layWays_X5_isBalking : GoodIn wsX5_layWays (wsV RX5 164 RX5 yX5_isBalking wsX5_isBalking) := goodIn_app (goodIn_of _ (by decide +kernel)) ggX5_layWays_X5_isBalking
theorem dX5_layWays_0 : decode cX5_layWays 0 = .ok (.aload_n 0, 1) := by decide +kernel
theorem dX5_layWays_1 : decode cX5_layWays 1 = .ok (.invokevirtual 175, 3) := by decide +kernel
theorem dX5_layWays_4 : decode cX5_layWays 4 = .ok (.iconst 0, 1) := by decide +kernel
theorem dX5_layWays_5 : decode cX5_layWays 5 = .ok (.istore_n 3, 1) := by decide +kernel
theorem dX5_layWays_6 : decode cX5_layWays 6 = .ok (.iload_n 3, 1) := by decide +kernel
theorem dX5_layWays_7 : decode cX5_layWays 7 = .ok (.bipush 10, 2) := by decide +kernel
theorem dX5_layWays_9 : decode cX5_layWays 9 = .ok (.if_icmp .ge 17, 3) := by decide +kernel
theorem dX5_layWays_12 : decode cX5_layWays 12 = .ok (.aload_n 0, 1) := by decide +kernel
theorem dX5_layWays_13 : decode cX5_layWays 13 = .ok (.getfield 62, 3) := by decide +kernel
theorem dX5_layWays_16 : decode cX5_layWays 16 = .ok (.iload_n 3, 1) := by decide +kernel
theorem dX5_layWays_17 : decode cX5_layWays 17 = .ok (.bipush (-9), 2) := by decide +kernel
theorem dX5_layWays_19 : decode cX5_layWays 19 = .ok (.iastore, 1) := by decide +kernel
theorem dX5_layWays_20 : decode cX5_layWays 20 = .ok (.iinc 3 1, 3) := by decide +kernel
theorem dX5_layWays_23 : decode cX5_layWays 23 = .ok (.goto (-17), 3) := by decide +kernel
theorem dX5_layWays_26 : decode cX5_layWays 26 = .ok (.aload_n 0, 1) := by decide +kernel
theorem dX5_layWays_27 : decode cX5_layWays 27 = .ok (.getfield 62, 3) := by decide +kernel
theorem dX5_layWays_30 : decode cX5_layWays 30 = .ok (.aload_n 0, 1) := by decide +kernel
theorem dX5_layWays_31 : decode cX5_layWays 31 = .ok (.getfield 31, 3) := by decide +kernel
theorem dX5_layWays_34 : decode cX5_layWays 34 = .ok (.iconst 0, 1) := by decide +kernel
theorem dX5_layWays_35 : decode cX5_layWays 35 = .ok (.iload_n 1, 1) := by decide +kernel
theorem dX5_layWays_36 : decode cX5_layWays 36 = .ok (.iadd, 1) := by decide +kernel
theorem dX5_layWays_37 : decode cX5_layWays 37 = .ok (.iaload, 1) := by decide +kernel
theorem dX5_layWays_38 : decode cX5_layWays 38 = .ok (.iconst 0, 1) := by decide +kernel
theorem dX5_layWays_39 : decode cX5_layWays 39 = .ok (.iastore, 1) := by decide +kernel
theorem dX5_layWays_40 : decode cX5_layWays 40 = .ok (.iconst 0, 1) := by decide +kernel
theorem dX5_layWays_41 : decode cX5_layWays 41 = .ok (.istore_n 3, 1) := by decide +kernel
theorem dX5_layWays_42 : decode cX5_layWays 42 = .ok (.iload_n 3, 1) := by decide +kernel
theorem dX5_layWays_43 : decode cX5_layWays 43 = .ok (.bipush 12, 2) := by decide +kernel
theorem dX5_layWays_45 : decode cX5_layWays 45 = .ok (.if_icmp .ge 186, 3) := by decide +kernel
theorem dX5_layWays_48 : decode cX5_layWays 48 = .ok (.aload_n 0, 1) := by decide +kernel
theorem dX5_layWays_49 : decode cX5_layWays 49 = .ok (.getfield 34, 3) := by decide +kernel
theorem dX5_layWays_52 : decode cX5_layWays 52 = .ok (.bipush 15, 2) := by decide +kernel
theorem dX5_layWays_54 : decode cX5_layWays 54 = .ok (.aload_n 0, 1) := by decide +kernel
theorem dX5_layWays_55 : decode cX5_layWays 55 = .ok (.getfield 31, 3) := by decide +kernel
theorem dX5_layWays_58 : decode cX5_layWays 58 = .ok (.bipush 15, 2) := by decide +kernel
theorem dX5_layWays_60 : decode cX5_layWays 60 = .ok (.iaload, 1) := by decide +kernel
theorem dX5_layWays_61 : decode cX5_layWays 61 = .ok (.iload_n 3, 1) := by decide +kernel
theorem dX5_layWays_62 : decode cX5_layWays 62 = .ok (.iadd, 1) := by decide +kernel
theorem dX5_layWays_63 : decode cX5_layWays 63 = .ok (.iastore, 1) := by decide +kernel
theorem dX5_layWays_64 : decode cX5_layWays 64 = .ok (.iconst 0, 1) := by decide +kernel
theorem dX5_layWays_65 : decode cX5_layWays 65 = .ok (.istore 4, 2) := by decide +kernel
theorem dX5_layWays_67 : decode cX5_layWays 67 = .ok (.iload 4, 2) := by decide +kernel
theorem dX5_layWays_69 : decode cX5_layWays 69 = .ok (.bipush 10, 2) := by decide +kernel
theorem dX5_layWays_71 : decode cX5_layWays 71 = .ok (.if_icmp .ge 154, 3) := by decide +kernel
theorem dX5_layWays_74 : decode cX5_layWays 74 = .ok (.iconst 0, 1) := by decide +kernel
theorem dX5_layWays_75 : decode cX5_layWays 75 = .ok (.istore 5, 2) := by decide +kernel
theorem dX5_layWays_77 : decode cX5_layWays 77 = .ok (.iload 5, 2) := by decide +kernel
theorem dX5_layWays_79 : decode cX5_layWays 79 = .ok (.iconst 2, 1) := by decide +kernel
theorem dX5_layWays_80 : decode cX5_layWays 80 = .ok (.if_icmp .ge 139, 3) := by decide +kernel
theorem dX5_layWays_83 : decode cX5_layWays 83 = .ok (.aload_n 0, 1) := by decide +kernel
theorem dX5_layWays_84 : decode cX5_layWays 84 = .ok (.getfield 34, 3) := by decide +kernel
theorem dX5_layWays_87 : decode cX5_layWays 87 = .ok (.iconst 0, 1) := by decide +kernel
theorem dX5_layWays_88 : decode cX5_layWays 88 = .ok (.iload_n 1, 1) := by decide +kernel
theorem dX5_layWays_89 : decode cX5_layWays 89 = .ok (.iadd, 1) := by decide +kernel
theorem dX5_layWays_90 : decode cX5_layWays 90 = .ok (.iload 4, 2) := by decide +kernel
theorem dX5_layWays_92 : decode cX5_layWays 92 = .ok (.iastore, 1) := by decide +kernel
theorem dX5_layWays_93 : decode cX5_layWays 93 = .ok (.aload_n 0, 1) := by decide +kernel
theorem dX5_layWays_94 : decode cX5_layWays 94 = .ok (.getfield 34, 3) := by decide +kernel
theorem dX5_layWays_97 : decode cX5_layWays 97 = .ok (.iload_n 1, 1) := by decide +kernel
theorem dX5_layWays_98 : decode cX5_layWays 98 = .ok (.iload 5, 2) := by decide +kernel
theorem dX5_layWays_100 : decode cX5_layWays 100 = .ok (.invokestatic 119, 3) := by decide +kernel
theorem dX5_layWays_103 : decode cX5_layWays 103 = .ok (.istore 6, 2) := by decide +kernel
theorem dX5_layWays_105 : decode cX5_layWays 105 = .ok (.aload_n 0, 1) := by decide +kernel
theorem dX5_layWays_106 : decode cX5_layWays 106 = .ok (.getfield 62, 3) := by decide +kernel
theorem dX5_layWays_109 : decode cX5_layWays 109 = .ok (.iload 4, 2) := by decide +kernel
theorem dX5_layWays_111 : decode cX5_layWays 111 = .ok (.iaload, 1) := by decide +kernel
theorem dX5_layWays_112 : decode cX5_layWays 112 = .ok (.bipush (-9), 2) := by decide +kernel
theorem dX5_layWays_114 : decode cX5_layWays 114 = .ok (.if_icmp .eq 37, 3) := by decide +kernel
theorem dX5_layWays_117 : decode cX5_layWays 117 = .ok (.aload_n 0, 1) := by decide +kernel
theorem dX5_layWays_118 : decode cX5_layWays 118 = .ok (.getfield 62, 3) := by decide +kernel
theorem dX5_layWays_121 : decode cX5_layWays 121 = .ok (.iload 4, 2) := by decide +kernel
theorem dX5_layWays_123 : decode cX5_layWays 123 = .ok (.iaload, 1) := by decide +kernel
theorem dX5_layWays_124 : decode cX5_layWays 124 = .ok (.iload_n 3, 1) := by decide +kernel
theorem dX5_layWays_125 : decode cX5_layWays 125 = .ok (.if_icmp .gt 26, 3) := by decide +kernel
theorem dX5_layWays_128 : decode cX5_layWays 128 = .ok (.iload 6, 2) := by decide +kernel
theorem dX5_layWays_130 : decode cX5_layWays 130 = .ok (.bipush (-9), 2) := by decide +kernel
theorem dX5_layWays_132 : decode cX5_layWays 132 = .ok (.if_icmp .eq 19, 3) := by decide +kernel
theorem dX5_layWays_135 : decode cX5_layWays 135 = .ok (.aload_n 0, 1) := by decide +kernel
theorem dX5_layWays_136 : decode cX5_layWays 136 = .ok (.getfield 62, 3) := by decide +kernel
theorem dX5_layWays_139 : decode cX5_layWays 139 = .ok (.iload 6, 2) := by decide +kernel
theorem dX5_layWays_141 : decode cX5_layWays 141 = .ok (.iaload, 1) := by decide +kernel
theorem dX5_layWays_142 : decode cX5_layWays 142 = .ok (.bipush (-9), 2) := by decide +kernel
theorem dX5_layWays_144 : decode cX5_layWays 144 = .ok (.if_icmp .ne 7, 3) := by decide +kernel
theorem dX5_layWays_147 : decode cX5_layWays 147 = .ok (.iconst 1, 1) := by decide +kernel
theorem dX5_layWays_148 : decode cX5_layWays 148 = .ok (.goto 4, 3) := by decide +kernel
theorem dX5_layWays_151 : decode cX5_layWays 151 = .ok (.iconst 0, 1) := by decide +kernel
theorem dX5_layWays_152 : decode cX5_layWays 152 = .ok (.istore 7, 2) := by decide +kernel
theorem dX5_layWays_154 : decode cX5_layWays 154 = .ok (.iload_n 2, 1) := by decide +kernel
theorem dX5_layWays_155 : decode cX5_layWays 155 = .ok (.ifCond .eq 25, 3) := by decide +kernel
theorem dX5_layWays_158 : decode cX5_layWays 158 = .ok (.aload_n 0, 1) := by decide +kernel
theorem dX5_layWays_159 : decode cX5_layWays 159 = .ok (.aload_n 0, 1) := by decide +kernel
theorem dX5_layWays_160 : decode cX5_layWays 160 = .ok (.getfield 34, 3) := by decide +kernel
theorem dX5_layWays_163 : decode cX5_layWays 163 = .ok (.iload_n 1, 1) := by decide +kernel
theorem dX5_layWays_164 : decode cX5_layWays 164 = .ok (.iload 5, 2) := by decide +kernel
theorem dX5_layWays_166 : decode cX5_layWays 166 = .ok (.invokevirtual 130, 3) := by decide +kernel
theorem dX5_layWays_169 : decode cX5_layWays 169 = .ok (.ifCond .eq 7, 3) := by decide +kernel
theorem dX5_layWays_172 : decode cX5_layWays 172 = .ok (.iconst 1, 1) := by decide +kernel
theorem dX5_layWays_173 : decode cX5_layWays 173 = .ok (.goto 18, 3) := by decide +kernel
theorem dX5_layWays_176 : decode cX5_layWays 176 = .ok (.iconst 0, 1) := by decide +kernel
theorem dX5_layWays_177 : decode cX5_layWays 177 = .ok (.goto 14, 3) := by decide +kernel
theorem dX5_layWays_180 : decode cX5_layWays 180 = .ok (.aload_n 0, 1) := by decide +kernel
theorem dX5_layWays_181 : decode cX5_layWays 181 = .ok (.aload_n 0, 1) := by decide +kernel
theorem dX5_layWays_182 : decode cX5_layWays 182 = .ok (.getfield 34, 3) := by decide +kernel
theorem dX5_layWays_185 : decode cX5_layWays 185 = .ok (.iload_n 1, 1) := by decide +kernel
theorem dX5_layWays_186 : decode cX5_layWays 186 = .ok (.iload 5, 2) := by decide +kernel
theorem dX5_layWays_188 : decode cX5_layWays 188 = .ok (.invokevirtual 164, 3) := by decide +kernel
theorem dX5_layWays_191 : decode cX5_layWays 191 = .ok (.istore 8, 2) := by decide +kernel
theorem dX5_layWays_193 : decode cX5_layWays 193 = .ok (.iload 7, 2) := by decide +kernel
theorem dX5_layWays_195 : decode cX5_layWays 195 = .ok (.ifCond .eq 18, 3) := by decide +kernel
theorem dX5_layWays_198 : decode cX5_layWays 198 = .ok (.iload 8, 2) := by decide +kernel
theorem dX5_layWays_200 : decode cX5_layWays 200 = .ok (.ifCond .ne 13, 3) := by decide +kernel
theorem dX5_layWays_203 : decode cX5_layWays 203 = .ok (.aload_n 0, 1) := by decide +kernel
theorem dX5_layWays_204 : decode cX5_layWays 204 = .ok (.getfield 62, 3) := by decide +kernel
theorem dX5_layWays_207 : decode cX5_layWays 207 = .ok (.iload 6, 2) := by decide +kernel
theorem dX5_layWays_209 : decode cX5_layWays 209 = .ok (.iload_n 3, 1) := by decide +kernel
theorem dX5_layWays_210 : decode cX5_layWays 210 = .ok (.iconst 1, 1) := by decide +kernel
theorem dX5_layWays_211 : decode cX5_layWays 211 = .ok (.iadd, 1) := by decide +kernel
theorem dX5_layWays_212 : decode cX5_layWays 212 = .ok (.iastore, 1) := by decide +kernel
theorem dX5_layWays_213 : decode cX5_layWays 213 = .ok (.iinc 5 1, 3) := by decide +kernel
theorem dX5_layWays_216 : decode cX5_layWays 216 = .ok (.goto (-139), 3) := by decide +kernel
theorem dX5_layWays_219 : decode cX5_layWays 219 = .ok (.iinc 4 1, 3) := by decide +kernel
theorem dX5_layWays_222 : decode cX5_layWays 222 = .ok (.goto (-155), 3) := by decide +kernel
theorem dX5_layWays_225 : decode cX5_layWays 225 = .ok (.iinc 3 1, 3) := by decide +kernel
theorem dX5_layWays_228 : decode cX5_layWays 228 = .ok (.goto (-186), 3) := by decide +kernel
theorem dX5_layWays_231 : decode cX5_layWays 231 = .ok (.return_, 1) := by decide +kernel
set_option maxRecDepth 20000 in
theorem ggX5_way_X5_noMule : GoodIn wsX5_way wsX5_noMule := goodIn_r _ [8, 9, 10, 11, 7, 12, 50, 51, 52, 53, 54, 55, 56, 57, 58, 59, 60, 61, 62, 63, 64, 65, 66, 67, 68, 69, 70, 71, 72, 73, 74, 75, 76, 77, 78, 79, 80, 81, 82] (by decide +kernel) (by decide +kernel)
set_option maxRecDepth 20000 in
theorem gX5_way_X5_noMule : GoodIn wsX5_way (wsV RX5 151 RX5 yX5_noMule wsX5_noMule) := goodIn_app (goodIn_of _ (by decide +kernel)) ggX5_way_X5_noMule
set_option maxRecDepth 20000 in
theorem ggX5_way_X5_in : GoodIn wsX5_way wsX5_in := goodIn_r _ [12] (by decide +kernel) (by decide +kernel)
set_option maxRecDepth 20000 in
theorem gX5_way_X5_in : GoodIn wsX5_way (va_wsS RX5 75 yX5_in wsX5_in) := goodIn_app (goodIn_of _ (by decide +kernel)) ggX5_way_X5_in
set_option maxRecDepth 20000 in
theorem ggX5_way_X5_layWays : GoodIn wsX5_way wsX5_layWays := goodIn_r _ [16, 3, 17, 18, 19, 20, 21, 7, 22, 23, 24, 25, 2, 10, 11, 12, 26, 27, 28, 29, 30, 31, 32, 33, 34, 35, 36, 37, 38, 9, 39, 40, 41, 42, 43, 44, 45, 46, 47, 48, 49, 50, 51, 52, 53, 54, 55, 56, 57, 58, 59, 60, 61, 62, 63, 64, 65, 66, 67, 68, 69, 70, 71, 72, 73, 74, 75, 76, 77, 78, 79, 80, 81, 82] (by decide +kernel) (by decide +kernel)
set_option maxRecDepth 20000 in
theorem gX5_way_X5_layWays : GoodIn wsX5_way (wsV RX5 178 RX5 yX5_layWays wsX5_layWays) := goodIn_app (goodIn_of _ (by decide +kernel)) ggX5_way_X5_layWays
theorem dX5_way_0 : decode cX5_way 0 = .ok (.aload_n 0, 1) := by decide +kernel
theorem dX5_way_1 : decode cX5_way 1 = .ok (.iconst 0, 1) := by decide +kernel
theorem dX5_way_2 : decode cX5_way 2 = .ok (.putfield 68, 3) := by decide +kernel
theorem dX5_way_5 : decode cX5_way 5 = .ok (.aload_n 0, 1) := by decide +kernel
theorem dX5_way_6 : decode cX5_way 6 = .ok (.iload_n 1, 1) := by decide +kernel
theorem dX5_way_7 : decode cX5_way 7 = .ok (.invokevirtual 151, 3) := by decide +kernel
theorem dX5_way_10 : decode cX5_way 10 = .ok (.ifCond .ne 15, 3) := by decide +kernel
theorem dX5_way_13 : decode cX5_way 13 = .ok (.iload_n 2, 1) := by decide +kernel
theorem dX5_way_14 : decode cX5_way 14 = .ok (.i2l, 1) := by decide +kernel
theorem dX5_way_15 : decode cX5_way 15 = .ok (.lconst 0, 1) := by decide +kernel
theorem dX5_way_16 : decode cX5_way 16 = .ok (.ldc2_w 117, 3) := by decide +kernel
theorem dX5_way_19 : decode cX5_way 19 = .ok (.invokestatic 75, 3) := by decide +kernel
theorem dX5_way_22 : decode cX5_way 22 = .ok (.ifCond .ne 5, 3) := by decide +kernel
theorem dX5_way_25 : decode cX5_way 25 = .ok (.iconst (-1), 1) := by decide +kernel
theorem dX5_way_26 : decode cX5_way 26 = .ok (.ireturn, 1) := by decide +kernel
theorem dX5_way_27 : decode cX5_way 27 = .ok (.aload_n 0, 1) := by decide +kernel
theorem dX5_way_28 : decode cX5_way 28 = .ok (.iload_n 1, 1) := by decide +kernel
theorem dX5_way_29 : decode cX5_way 29 = .ok (.iload_n 3, 1) := by decide +kernel
theorem dX5_way_30 : decode cX5_way 30 = .ok (.invokevirtual 178, 3) := by decide +kernel
theorem dX5_way_33 : decode cX5_way 33 = .ok (.aload_n 0, 1) := by decide +kernel
theorem dX5_way_34 : decode cX5_way 34 = .ok (.getfield 62, 3) := by decide +kernel
theorem dX5_way_37 : decode cX5_way 37 = .ok (.iload_n 2, 1) := by decide +kernel
theorem dX5_way_38 : decode cX5_way 38 = .ok (.iaload, 1) := by decide +kernel
theorem dX5_way_39 : decode cX5_way 39 = .ok (.ireturn, 1) := by decide +kernel
set_option maxRecDepth 20000 in
theorem ggX5_enclaves_X5_noMule : GoodIn wsX5_enclaves wsX5_noMule := goodIn_r _ [7, 8, 9, 10, 6, 11, 50, 51, 52, 53, 54, 55, 56, 57, 58, 59, 60, 61, 62, 63, 64, 65, 66, 67, 68, 69, 70, 71, 72, 73, 74, 75, 76, 77, 78, 79, 80, 81, 82] (by decide +kernel) (by decide +kernel)
set_option maxRecDepth 20000 in
theorem gX5_enclaves_X5_noMule : GoodIn wsX5_enclaves (wsV RX5 151 RX5 yX5_noMule wsX5_noMule) := goodIn_app (goodIn_of _ (by decide +kernel)) ggX5_enclaves_X5_noMule
set_option maxRecDepth 20000 in
theorem ggX5_enclaves_X5_layWays : GoodIn wsX5_enclaves wsX5_layWays := goodIn_r _ [15, 2, 16, 17, 18, 19, 20, 6, 21, 22, 23, 24, 25, 9, 10, 11, 26, 27, 28, 29, 30, 31, 32, 33, 34, 35, 36, 37, 38, 8, 39, 40, 41, 42, 43, 44, 45, 46, 47, 48, 49, 50, 51, 52, 53, 54, 55, 56, 57, 58, 59, 60, 61, 62, 63, 64, 65, 66, 67, 68, 69, 70, 71, 72, 73, 74, 75, 76, 77, 78, 79, 80, 81, 82] (by decide +kernel) (by decide +kernel)
set_option maxRecDepth 20000 in
theorem gX5_enclaves_X5_layWays : GoodIn wsX5_enclaves (wsV RX5 178 RX5 yX5_layWays wsX5_layWays) := goodIn_app (goodIn_of _ (by decide +kernel)) ggX5_enclaves_X5_layWays
theorem dX5_enclaves_0 : decode cX5_enclaves 0 = .ok (.aload_n 0, 1) := by decide +kernel
theorem dX5_enclaves_1 : decode cX5_enclaves 1 = .ok (.iconst 0, 1) := by decide +kernel
theorem dX5_enclaves_2 : decode cX5_enclaves 2 = .ok (.putfield 68, 3) := by decide +kernel
theorem dX5_enclaves_5 : decode cX5_enclaves 5 = .ok (.aload_n 0, 1) := by decide +kernel
theorem dX5_enclaves_6 : decode cX5_enclaves 6 = .ok (.iload_n 1, 1) := by decide +kernel
theorem dX5_enclaves_7 : decode cX5_enclaves 7 = .ok (.invokevirtual 151, 3) := by decide +kernel
theorem dX5_enclaves_10 : decode cX5_enclaves 10 = .ok (.ifCond .eq 5, 3) := by decide +kernel
theorem dX5_enclaves_13 : decode cX5_enclaves 13 = .ok (.iconst (-1), 1) := by decide +kernel
theorem dX5_enclaves_14 : decode cX5_enclaves 14 = .ok (.ireturn, 1) := by decide +kernel
theorem dX5_enclaves_15 : decode cX5_enclaves 15 = .ok (.aload_n 0, 1) := by decide +kernel
theorem dX5_enclaves_16 : decode cX5_enclaves 16 = .ok (.iload_n 1, 1) := by decide +kernel
theorem dX5_enclaves_17 : decode cX5_enclaves 17 = .ok (.iconst 0, 1) := by decide +kernel
theorem dX5_enclaves_18 : decode cX5_enclaves 18 = .ok (.invokevirtual 178, 3) := by decide +kernel
theorem dX5_enclaves_21 : decode cX5_enclaves 21 = .ok (.iconst 0, 1) := by decide +kernel
theorem dX5_enclaves_22 : decode cX5_enclaves 22 = .ok (.istore_n 2, 1) := by decide +kernel
theorem dX5_enclaves_23 : decode cX5_enclaves 23 = .ok (.iconst 0, 1) := by decide +kernel
theorem dX5_enclaves_24 : decode cX5_enclaves 24 = .ok (.istore_n 3, 1) := by decide +kernel
theorem dX5_enclaves_25 : decode cX5_enclaves 25 = .ok (.iload_n 3, 1) := by decide +kernel
theorem dX5_enclaves_26 : decode cX5_enclaves 26 = .ok (.bipush 10, 2) := by decide +kernel
theorem dX5_enclaves_28 : decode cX5_enclaves 28 = .ok (.if_icmp .ge 30, 3) := by decide +kernel
theorem dX5_enclaves_31 : decode cX5_enclaves 31 = .ok (.iload_n 2, 1) := by decide +kernel
theorem dX5_enclaves_32 : decode cX5_enclaves 32 = .ok (.aload_n 0, 1) := by decide +kernel
theorem dX5_enclaves_33 : decode cX5_enclaves 33 = .ok (.getfield 62, 3) := by decide +kernel
theorem dX5_enclaves_36 : decode cX5_enclaves 36 = .ok (.iload_n 3, 1) := by decide +kernel
theorem dX5_enclaves_37 : decode cX5_enclaves 37 = .ok (.iaload, 1) := by decide +kernel
theorem dX5_enclaves_38 : decode cX5_enclaves 38 = .ok (.bipush (-9), 2) := by decide +kernel
theorem dX5_enclaves_40 : decode cX5_enclaves 40 = .ok (.if_icmp .ne 9, 3) := by decide +kernel
theorem dX5_enclaves_43 : decode cX5_enclaves 43 = .ok (.iconst 1, 1) := by decide +kernel
theorem dX5_enclaves_44 : decode cX5_enclaves 44 = .ok (.iload_n 3, 1) := by decide +kernel
theorem dX5_enclaves_45 : decode cX5_enclaves 45 = .ok (.ishl, 1) := by decide +kernel
theorem dX5_enclaves_46 : decode cX5_enclaves 46 = .ok (.goto 4, 3) := by decide +kernel
theorem dX5_enclaves_49 : decode cX5_enclaves 49 = .ok (.iconst 0, 1) := by decide +kernel
theorem dX5_enclaves_50 : decode cX5_enclaves 50 = .ok (.ior, 1) := by decide +kernel
theorem dX5_enclaves_51 : decode cX5_enclaves 51 = .ok (.istore_n 2, 1) := by decide +kernel
theorem dX5_enclaves_52 : decode cX5_enclaves 52 = .ok (.iinc 3 1, 3) := by decide +kernel
theorem dX5_enclaves_55 : decode cX5_enclaves 55 = .ok (.goto (-30), 3) := by decide +kernel
theorem dX5_enclaves_58 : decode cX5_enclaves 58 = .ok (.iload_n 2, 1) := by decide +kernel
theorem dX5_enclaves_59 : decode cX5_enclaves 59 = .ok (.ireturn, 1) := by decide +kernel
set_option maxRecDepth 20000 in
theorem ggX5_holdsFast_X5_toStone : GoodIn wsX5_holdsFast wsX5_toStone := goodIn_r _ [5, 6, 7, 8, 4, 9] (by decide +kernel) (by decide +kernel)
set_option maxRecDepth 20000 in
theorem gX5_holdsFast_X5_toStone : GoodIn wsX5_holdsFast (va_wsS RX5 119 yX5_toStone wsX5_toStone) := goodIn_app (goodIn_of _ (by decide +kernel)) ggX5_holdsFast_X5_toStone
set_option maxRecDepth 20000 in
theorem ggX5_holdsFast_X5_forbids : GoodIn wsX5_holdsFast wsX5_forbids := goodIn_r _ [13, 14, 15, 16, 17, 18, 2, 3, 4, 5, 6, 7, 8, 9, 19, 20, 21, 22, 23, 24, 25, 26, 35, 36, 37, 38, 39, 40, 41, 42, 43, 44, 45, 46, 47, 48, 49, 50, 51, 52, 53, 54, 55, 56, 57, 58, 59, 60, 61, 62, 63, 64, 65, 66, 67] (by decide +kernel) (by decide +kernel)
set_option maxRecDepth 20000 in
theorem gX5_holdsFast_X5_forbids : GoodIn wsX5_holdsFast (wsV RX5 130 RX5 yX5_forbids wsX5_forbids) := goodIn_app (goodIn_of _ (by decide +kernel)) ggX5_holdsFast_X5_forbids
set_option maxRecDepth 20000 in
theorem ggX5_holdsFast_X5_isBalking : GoodIn wsX5_holdsFast wsX5_isBalking := goodIn_r _ [30, 10, 11, 12, 4, 13, 14, 15, 16, 17, 18, 2, 3, 5, 6, 7, 8, 9, 19, 20, 21, 22, 23, 24, 25, 26, 31, 32, 33, 34, 35, 36, 37, 38, 39, 40, 41, 42, 43, 44, 45, 46, 47, 48, 49, 50, 51, 52, 53, 54, 55, 56, 57, 58, 59, 60, 61, 62, 63, 64, 65, 66, 67] (by decide +kernel) (by decide +kernel)
set_option maxRecDepth 20000 in
theorem gX5_holdsFast_X5_isBalking : GoodIn wsX5_holdsFast (wsV RX5 164 RX5 yX5_isBalking wsX5_isBalking) := goodIn_app (goodIn_of _ (by decide +kernel)) ggX5_holdsFast_X5_isBalking
theorem dX5_holdsFast_0 : decode cX5_holdsFast 0 = .ok (.iconst 1, 1) := by decide +kernel
theorem dX5_holdsFast_1 : decode cX5_holdsFast 1 = .ok (.istore_n 2, 1) := by decide +kernel
theorem dX5_holdsFast_2 : decode cX5_holdsFast 2 = .ok (.iconst 0, 1) := by decide +kernel
theorem dX5_holdsFast_3 : decode cX5_holdsFast 3 = .ok (.istore_n 3, 1) := by decide +kernel
theorem dX5_holdsFast_4 : decode cX5_holdsFast 4 = .ok (.iload_n 3, 1) := by decide +kernel
theorem dX5_holdsFast_5 : decode cX5_holdsFast 5 = .ok (.iconst 2, 1) := by decide +kernel
theorem dX5_holdsFast_6 : decode cX5_holdsFast 6 = .ok (.if_icmp .ge 71, 3) := by decide +kernel
theorem dX5_holdsFast_9 : decode cX5_holdsFast 9 = .ok (.aload_n 0, 1) := by decide +kernel
theorem dX5_holdsFast_10 : decode cX5_holdsFast 10 = .ok (.getfield 34, 3) := by decide +kernel
theorem dX5_holdsFast_13 : decode cX5_holdsFast 13 = .ok (.iload_n 1, 1) := by decide +kernel
theorem dX5_holdsFast_14 : decode cX5_holdsFast 14 = .ok (.iload_n 3, 1) := by decide +kernel
theorem dX5_holdsFast_15 : decode cX5_holdsFast 15 = .ok (.invokestatic 119, 3) := by decide +kernel
theorem dX5_holdsFast_18 : decode cX5_holdsFast 18 = .ok (.bipush (-9), 2) := by decide +kernel
theorem dX5_holdsFast_20 : decode cX5_holdsFast 20 = .ok (.if_icmp .eq 20, 3) := by decide +kernel
theorem dX5_holdsFast_23 : decode cX5_holdsFast 23 = .ok (.aload_n 0, 1) := by decide +kernel
theorem dX5_holdsFast_24 : decode cX5_holdsFast 24 = .ok (.aload_n 0, 1) := by decide +kernel
theorem dX5_holdsFast_25 : decode cX5_holdsFast 25 = .ok (.getfield 34, 3) := by decide +kernel
theorem dX5_holdsFast_28 : decode cX5_holdsFast 28 = .ok (.iload_n 1, 1) := by decide +kernel
theorem dX5_holdsFast_29 : decode cX5_holdsFast 29 = .ok (.iload_n 3, 1) := by decide +kernel
theorem dX5_holdsFast_30 : decode cX5_holdsFast 30 = .ok (.invokevirtual 130, 3) := by decide +kernel
theorem dX5_holdsFast_33 : decode cX5_holdsFast 33 = .ok (.ifCond .eq 7, 3) := by decide +kernel
theorem dX5_holdsFast_36 : decode cX5_holdsFast 36 = .ok (.iconst 1, 1) := by decide +kernel
theorem dX5_holdsFast_37 : decode cX5_holdsFast 37 = .ok (.goto 4, 3) := by decide +kernel
theorem dX5_holdsFast_40 : decode cX5_holdsFast 40 = .ok (.iconst 0, 1) := by decide +kernel
theorem dX5_holdsFast_41 : decode cX5_holdsFast 41 = .ok (.istore 4, 2) := by decide +kernel
theorem dX5_holdsFast_43 : decode cX5_holdsFast 43 = .ok (.iload_n 2, 1) := by decide +kernel
theorem dX5_holdsFast_44 : decode cX5_holdsFast 44 = .ok (.ifCond .eq 25, 3) := by decide +kernel
theorem dX5_holdsFast_47 : decode cX5_holdsFast 47 = .ok (.iload 4, 2) := by decide +kernel
theorem dX5_holdsFast_49 : decode cX5_holdsFast 49 = .ok (.ifCond .eq 16, 3) := by decide +kernel
theorem dX5_holdsFast_52 : decode cX5_holdsFast 52 = .ok (.aload_n 0, 1) := by decide +kernel
theorem dX5_holdsFast_53 : decode cX5_holdsFast 53 = .ok (.aload_n 0, 1) := by decide +kernel
theorem dX5_holdsFast_54 : decode cX5_holdsFast 54 = .ok (.getfield 34, 3) := by decide +kernel
theorem dX5_holdsFast_57 : decode cX5_holdsFast 57 = .ok (.iload_n 1, 1) := by decide +kernel
theorem dX5_holdsFast_58 : decode cX5_holdsFast 58 = .ok (.iload_n 3, 1) := by decide +kernel
theorem dX5_holdsFast_59 : decode cX5_holdsFast 59 = .ok (.invokevirtual 164, 3) := by decide +kernel
theorem dX5_holdsFast_62 : decode cX5_holdsFast 62 = .ok (.ifCond .eq 7, 3) := by decide +kernel
theorem dX5_holdsFast_65 : decode cX5_holdsFast 65 = .ok (.iconst 1, 1) := by decide +kernel
theorem dX5_holdsFast_66 : decode cX5_holdsFast 66 = .ok (.goto 4, 3) := by decide +kernel
theorem dX5_holdsFast_69 : decode cX5_holdsFast 69 = .ok (.iconst 0, 1) := by decide +kernel
theorem dX5_holdsFast_70 : decode cX5_holdsFast 70 = .ok (.istore_n 2, 1) := by decide +kernel
theorem dX5_holdsFast_71 : decode cX5_holdsFast 71 = .ok (.iinc 3 1, 3) := by decide +kernel
theorem dX5_holdsFast_74 : decode cX5_holdsFast 74 = .ok (.goto (-70), 3) := by decide +kernel
theorem dX5_holdsFast_77 : decode cX5_holdsFast 77 = .ok (.iload_n 2, 1) := by decide +kernel
theorem dX5_holdsFast_78 : decode cX5_holdsFast 78 = .ok (.ireturn, 1) := by decide +kernel
set_option maxRecDepth 20000 in
theorem ggX5_teach_X5_noMule : GoodIn wsX5_teach wsX5_noMule := goodIn_r _ [9, 10, 11, 12, 8, 13, 52, 53, 54, 55, 56, 57, 58, 59, 60, 61, 62, 63, 64, 65, 66, 67, 68, 69, 70, 71, 72, 73, 74, 75, 76, 77, 78, 79, 80, 81, 82, 83, 84] (by decide +kernel) (by decide +kernel)
set_option maxRecDepth 20000 in
theorem gX5_teach_X5_noMule : GoodIn wsX5_teach (wsV RX5 151 RX5 yX5_noMule wsX5_noMule) := goodIn_app (goodIn_of _ (by decide +kernel)) ggX5_teach_X5_noMule
set_option maxRecDepth 20000 in
theorem ggX5_teach_X5_knows : GoodIn wsX5_teach wsX5_knows := goodIn_r _ [17, 2, 52, 53, 54, 55, 56, 57, 58, 59, 60, 61, 62, 63, 64, 65, 66, 67, 68, 69, 70, 71, 72, 73, 74, 75, 76, 77, 78, 79, 80, 81, 82, 83, 84] (by decide +kernel) (by decide +kernel)
set_option maxRecDepth 20000 in
theorem gX5_teach_X5_knows : GoodIn wsX5_teach (wsV RX5 133 RX5 yX5_knows wsX5_knows) := goodIn_app (goodIn_of _ (by decide +kernel)) ggX5_teach_X5_knows
set_option maxRecDepth 20000 in
theorem ggX5_teach_X5_many : GoodIn wsX5_teach wsX5_many := goodIn_r _ [20] (by decide +kernel) (by decide +kernel)
set_option maxRecDepth 20000 in
theorem gX5_teach_X5_many : GoodIn wsX5_teach (va_wsS RX5 161 yX5_many wsX5_many) := goodIn_app (goodIn_of _ (by decide +kernel)) ggX5_teach_X5_many
set_option maxRecDepth 20000 in
theorem ggX5_teach_X5_begin : GoodIn wsX5_teach wsX5_begin := goodIn_r _ [24, 4, 3, 52, 53, 54, 55, 56, 57, 58, 59, 60, 61, 62, 63, 64, 65, 66, 67, 68, 69, 70, 71, 72, 73, 74, 75, 76, 77, 78, 79, 80, 81, 82, 83, 84] (by decide +kernel) (by decide +kernel)
set_option maxRecDepth 20000 in
theorem gX5_teach_X5_begin : GoodIn wsX5_teach (wsV RX5 175 RX5 yX5_begin wsX5_begin) := goodIn_app (goodIn_of _ (by decide +kernel)) ggX5_teach_X5_begin
set_option maxRecDepth 20000 in
theorem ggX5_teach_X5_holdsFast : GoodIn wsX5_teach wsX5_holdsFast := goodIn_r _ [28, 4, 29, 30, 8, 31, 32, 11, 12, 13, 33, 34, 35, 36, 2, 37, 38, 39, 40, 41, 42, 43, 44, 10, 45, 46, 47, 48, 49, 50, 51, 14, 15, 16, 17, 52, 53, 54, 55, 56, 57, 58, 59, 60, 61, 62, 63, 64, 65, 66, 67, 68, 69, 70, 71, 72, 73, 74, 75, 76, 77, 78, 79, 80, 81, 82, 83, 84] (by decide +kernel) (by decide +kernel)
set_option maxRecDepth 20000 in
theorem gX5_teach_X5_holdsFast : GoodIn wsX5_teach (wsV RX5 182 RX5 yX5_holdsFast wsX5_holdsFast) := goodIn_app (goodIn_of _ (by decide +kernel)) ggX5_teach_X5_holdsFast
theorem dX5_teach_0 : decode cX5_teach 0 = .ok (.aload_n 0, 1) := by decide +kernel
theorem dX5_teach_1 : decode cX5_teach 1 = .ok (.iconst 0, 1) := by decide +kernel
theorem dX5_teach_2 : decode cX5_teach 2 = .ok (.putfield 68, 3) := by decide +kernel
theorem dX5_teach_5 : decode cX5_teach 5 = .ok (.aload_n 0, 1) := by decide +kernel
theorem dX5_teach_6 : decode cX5_teach 6 = .ok (.iload_n 1, 1) := by decide +kernel
theorem dX5_teach_7 : decode cX5_teach 7 = .ok (.invokevirtual 151, 3) := by decide +kernel
theorem dX5_teach_10 : decode cX5_teach 10 = .ok (.ifCond .eq 5, 3) := by decide +kernel
theorem dX5_teach_13 : decode cX5_teach 13 = .ok (.iconst (-1), 1) := by decide +kernel
theorem dX5_teach_14 : decode cX5_teach 14 = .ok (.ireturn, 1) := by decide +kernel
theorem dX5_teach_15 : decode cX5_teach 15 = .ok (.bipush (-9), 2) := by decide +kernel
theorem dX5_teach_17 : decode cX5_teach 17 = .ok (.istore_n 2, 1) := by decide +kernel
theorem dX5_teach_18 : decode cX5_teach 18 = .ok (.iconst 0, 1) := by decide +kernel
theorem dX5_teach_19 : decode cX5_teach 19 = .ok (.istore_n 3, 1) := by decide +kernel
theorem dX5_teach_20 : decode cX5_teach 20 = .ok (.iload_n 3, 1) := by decide +kernel
theorem dX5_teach_21 : decode cX5_teach 21 = .ok (.iconst 1, 1) := by decide +kernel
theorem dX5_teach_22 : decode cX5_teach 22 = .ok (.aload_n 0, 1) := by decide +kernel
theorem dX5_teach_23 : decode cX5_teach 23 = .ok (.getfield 79, 3) := by decide +kernel
theorem dX5_teach_26 : decode cX5_teach 26 = .ok (.ishl, 1) := by decide +kernel
theorem dX5_teach_27 : decode cX5_teach 27 = .ok (.if_icmp .ge 71, 3) := by decide +kernel
theorem dX5_teach_30 : decode cX5_teach 30 = .ok (.iload_n 3, 1) := by decide +kernel
theorem dX5_teach_31 : decode cX5_teach 31 = .ok (.aload_n 0, 1) := by decide +kernel
theorem dX5_teach_32 : decode cX5_teach 32 = .ok (.aload_n 0, 1) := by decide +kernel
theorem dX5_teach_33 : decode cX5_teach 33 = .ok (.getfield 31, 3) := by decide +kernel
theorem dX5_teach_36 : decode cX5_teach 36 = .ok (.iload_n 1, 1) := by decide +kernel
theorem dX5_teach_37 : decode cX5_teach 37 = .ok (.invokevirtual 133, 3) := by decide +kernel
theorem dX5_teach_40 : decode cX5_teach 40 = .ok (.iand, 1) := by decide +kernel
theorem dX5_teach_41 : decode cX5_teach 41 = .ok (.ifCond .ne 51, 3) := by decide +kernel
theorem dX5_teach_44 : decode cX5_teach 44 = .ok (.iload_n 2, 1) := by decide +kernel
theorem dX5_teach_45 : decode cX5_teach 45 = .ok (.bipush (-9), 2) := by decide +kernel
theorem dX5_teach_47 : decode cX5_teach 47 = .ok (.if_icmp .eq 14, 3) := by decide +kernel
theorem dX5_teach_50 : decode cX5_teach 50 = .ok (.iload_n 3, 1) := by decide +kernel
theorem dX5_teach_51 : decode cX5_teach 51 = .ok (.invokestatic 161, 3) := by decide +kernel
theorem dX5_teach_54 : decode cX5_teach 54 = .ok (.iload_n 2, 1) := by decide +kernel
theorem dX5_teach_55 : decode cX5_teach 55 = .ok (.invokestatic 161, 3) := by decide +kernel
theorem dX5_teach_58 : decode cX5_teach 58 = .ok (.if_icmp .ge 34, 3) := by decide +kernel
theorem dX5_teach_61 : decode cX5_teach 61 = .ok (.aload_n 0, 1) := by decide +kernel
theorem dX5_teach_62 : decode cX5_teach 62 = .ok (.invokevirtual 175, 3) := by decide +kernel
theorem dX5_teach_65 : decode cX5_teach 65 = .ok (.aload_n 0, 1) := by decide +kernel
theorem dX5_teach_66 : decode cX5_teach 66 = .ok (.getfield 34, 3) := by decide +kernel
theorem dX5_teach_69 : decode cX5_teach 69 = .ok (.bipush 10, 2) := by decide +kernel
theorem dX5_teach_71 : decode cX5_teach 71 = .ok (.iload_n 1, 1) := by decide +kernel
theorem dX5_teach_72 : decode cX5_teach 72 = .ok (.iadd, 1) := by decide +kernel
theorem dX5_teach_73 : decode cX5_teach 73 = .ok (.dup2, 1) := by decide +kernel
theorem dX5_teach_74 : decode cX5_teach 74 = .ok (.iaload, 1) := by decide +kernel
theorem dX5_teach_75 : decode cX5_teach 75 = .ok (.iload_n 3, 1) := by decide +kernel
theorem dX5_teach_76 : decode cX5_teach 76 = .ok (.ior, 1) := by decide +kernel
theorem dX5_teach_77 : decode cX5_teach 77 = .ok (.iastore, 1) := by decide +kernel
theorem dX5_teach_78 : decode cX5_teach 78 = .ok (.aload_n 0, 1) := by decide +kernel
theorem dX5_teach_79 : decode cX5_teach 79 = .ok (.iload_n 1, 1) := by decide +kernel
theorem dX5_teach_80 : decode cX5_teach 80 = .ok (.invokevirtual 182, 3) := by decide +kernel
theorem dX5_teach_83 : decode cX5_teach 83 = .ok (.ifCond .eq 7, 3) := by decide +kernel
theorem dX5_teach_86 : decode cX5_teach 86 = .ok (.iload_n 3, 1) := by decide +kernel
theorem dX5_teach_87 : decode cX5_teach 87 = .ok (.goto 4, 3) := by decide +kernel

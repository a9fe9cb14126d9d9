theorem dX5_step_11 : decode cX5_step 11 = .ok (.istore_n 3, 1) := by decide +kernel
theorem dX5_step_12 : decode cX5_step 12 = .ok (.iload_n 3, 1) := by decide +kernel
theorem dX5_step_13 : decode cX5_step 13 = .ok (.ifCond .eq 5, 3) := by decide +kernel
theorem dX5_step_16 : decode cX5_step 16 = .ok (.iload_n 3, 1) := by decide +kernel
theorem dX5_step_17 : decode cX5_step 17 = .ok (.ireturn, 1) := by decide +kernel
theorem dX5_step_18 : decode cX5_step 18 = .ok (.aload_n 0, 1) := by decide +kernel
theorem dX5_step_19 : decode cX5_step 19 = .ok (.aload_n 0, 1) := by decide +kernel
theorem dX5_step_20 : decode cX5_step 20 = .ok (.getfield 31, 3) := by decide +kernel
theorem dX5_step_23 : decode cX5_step 23 = .ok (.iload_n 1, 1) := by decide +kernel
theorem dX5_step_24 : decode cX5_step 24 = .ok (.iload_n 2, 1) := by decide +kernel
theorem dX5_step_25 : decode cX5_step 25 = .ok (.invokevirtual 164, 3) := by decide +kernel
theorem dX5_step_28 : decode cX5_step 28 = .ok (.ifCond .eq 6, 3) := by decide +kernel
theorem dX5_step_31 : decode cX5_step 31 = .ok (.bipush (-3), 2) := by decide +kernel
theorem dX5_step_33 : decode cX5_step 33 = .ok (.ireturn, 1) := by decide +kernel
theorem dX5_step_34 : decode cX5_step 34 = .ok (.aload_n 0, 1) := by decide +kernel
theorem dX5_step_35 : decode cX5_step 35 = .ok (.invokevirtual 168, 3) := by decide +kernel
theorem dX5_step_38 : decode cX5_step 38 = .ok (.aload_n 0, 1) := by decide +kernel
theorem dX5_step_39 : decode cX5_step 39 = .ok (.aload_n 0, 1) := by decide +kernel
theorem dX5_step_40 : decode cX5_step 40 = .ok (.getfield 31, 3) := by decide +kernel
theorem dX5_step_43 : decode cX5_step 43 = .ok (.iload_n 1, 1) := by decide +kernel
theorem dX5_step_44 : decode cX5_step 44 = .ok (.iload_n 2, 1) := by decide +kernel
theorem dX5_step_45 : decode cX5_step 45 = .ok (.invokevirtual 171, 3) := by decide +kernel
theorem dX5_step_48 : decode cX5_step 48 = .ok (.aload_n 0, 1) := by decide +kernel
theorem dX5_step_49 : decode cX5_step 49 = .ok (.getfield 31, 3) := by decide +kernel
theorem dX5_step_52 : decode cX5_step 52 = .ok (.iconst 0, 1) := by decide +kernel
theorem dX5_step_53 : decode cX5_step 53 = .ok (.iload_n 1, 1) := by decide +kernel
theorem dX5_step_54 : decode cX5_step 54 = .ok (.iadd, 1) := by decide +kernel
theorem dX5_step_55 : decode cX5_step 55 = .ok (.iaload, 1) := by decide +kernel
theorem dX5_step_56 : decode cX5_step 56 = .ok (.ireturn, 1) := by decide +kernel
theorem dX5_pause_0 : decode cX5_pause 0 = .ok (.aload_n 0, 1) := by decide +kernel
theorem dX5_pause_1 : decode cX5_pause 1 = .ok (.iconst 0, 1) := by decide +kernel
theorem dX5_pause_2 : decode cX5_pause 2 = .ok (.putfield 68, 3) := by decide +kernel
theorem dX5_pause_5 : decode cX5_pause 5 = .ok (.aload_n 0, 1) := by decide +kernel
theorem dX5_pause_6 : decode cX5_pause 6 = .ok (.invokevirtual 168, 3) := by decide +kernel
theorem dX5_pause_9 : decode cX5_pause 9 = .ok (.aload_n 0, 1) := by decide +kernel
theorem dX5_pause_10 : decode cX5_pause 10 = .ok (.getfield 31, 3) := by decide +kernel
theorem dX5_pause_13 : decode cX5_pause 13 = .ok (.bipush 15, 2) := by decide +kernel
theorem dX5_pause_15 : decode cX5_pause 15 = .ok (.dup2, 1) := by decide +kernel
theorem dX5_pause_16 : decode cX5_pause 16 = .ok (.iaload, 1) := by decide +kernel
theorem dX5_pause_17 : decode cX5_pause 17 = .ok (.iconst 1, 1) := by decide +kernel
theorem dX5_pause_18 : decode cX5_pause 18 = .ok (.iadd, 1) := by decide +kernel
theorem dX5_pause_19 : decode cX5_pause 19 = .ok (.iastore, 1) := by decide +kernel
theorem dX5_pause_20 : decode cX5_pause 20 = .ok (.aload_n 0, 1) := by decide +kernel
theorem dX5_pause_21 : decode cX5_pause 21 = .ok (.getfield 31, 3) := by decide +kernel
theorem dX5_pause_24 : decode cX5_pause 24 = .ok (.bipush 15, 2) := by decide +kernel
theorem dX5_pause_26 : decode cX5_pause 26 = .ok (.iaload, 1) := by decide +kernel
theorem dX5_pause_27 : decode cX5_pause 27 = .ok (.ireturn, 1) := by decide +kernel
theorem dX5_show_0 : decode cX5_show 0 = .ok (.aload_n 0, 1) := by decide +kernel
theorem dX5_show_1 : decode cX5_show 1 = .ok (.iconst 0, 1) := by decide +kernel
theorem dX5_show_2 : decode cX5_show 2 = .ok (.putfield 68, 3) := by decide +kernel
theorem dX5_show_5 : decode cX5_show 5 = .ok (.aload_n 0, 1) := by decide +kernel
theorem dX5_show_6 : decode cX5_show 6 = .ok (.iload_n 1, 1) := by decide +kernel
theorem dX5_show_7 : decode cX5_show 7 = .ok (.invokevirtual 151, 3) := by decide +kernel
theorem dX5_show_10 : decode cX5_show 10 = .ok (.ifCond .ne 19, 3) := by decide +kernel
theorem dX5_show_13 : decode cX5_show 13 = .ok (.aload_n 0, 1) := by decide +kernel
theorem dX5_show_14 : decode cX5_show 14 = .ok (.iload_n 2, 1) := by decide +kernel
theorem dX5_show_15 : decode cX5_show 15 = .ok (.invokevirtual 151, 3) := by decide +kernel
theorem dX5_show_18 : decode cX5_show 18 = .ok (.ifCond .ne 11, 3) := by decide +kernel
theorem dX5_show_21 : decode cX5_show 21 = .ok (.aload_n 0, 1) := by decide +kernel
theorem dX5_show_22 : decode cX5_show 22 = .ok (.iload_n 3, 1) := by decide +kernel
theorem dX5_show_23 : decode cX5_show 23 = .ok (.invokevirtual 144, 3) := by decide +kernel
theorem dX5_show_26 : decode cX5_show 26 = .ok (.ifCond .eq 5, 3) := by decide +kernel
theorem dX5_show_29 : decode cX5_show 29 = .ok (.iconst (-1), 1) := by decide +kernel
theorem dX5_show_30 : decode cX5_show 30 = .ok (.ireturn, 1) := by decide +kernel
theorem dX5_show_31 : decode cX5_show 31 = .ok (.iload_n 1, 1) := by decide +kernel
theorem dX5_show_32 : decode cX5_show 32 = .ok (.iload_n 2, 1) := by decide +kernel
theorem dX5_show_33 : decode cX5_show 33 = .ok (.if_icmp .ne 6, 3) := by decide +kernel
theorem dX5_show_36 : decode cX5_show 36 = .ok (.bipush (-2), 2) := by decide +kernel
theorem dX5_show_38 : decode cX5_show 38 = .ok (.ireturn, 1) := by decide +kernel
theorem dX5_show_39 : decode cX5_show 39 = .ok (.aload_n 0, 1) := by decide +kernel
theorem dX5_show_40 : decode cX5_show 40 = .ok (.getfield 31, 3) := by decide +kernel
theorem dX5_show_43 : decode cX5_show 43 = .ok (.iconst 0, 1) := by decide +kernel
theorem dX5_show_44 : decode cX5_show 44 = .ok (.iload_n 1, 1) := by decide +kernel
theorem dX5_show_45 : decode cX5_show 45 = .ok (.iadd, 1) := by decide +kernel
theorem dX5_show_46 : decode cX5_show 46 = .ok (.iaload, 1) := by decide +kernel
theorem dX5_show_47 : decode cX5_show 47 = .ok (.aload_n 0, 1) := by decide +kernel
theorem dX5_show_48 : decode cX5_show 48 = .ok (.getfield 31, 3) := by decide +kernel
theorem dX5_show_51 : decode cX5_show 51 = .ok (.iconst 0, 1) := by decide +kernel
theorem dX5_show_52 : decode cX5_show 52 = .ok (.iload_n 2, 1) := by decide +kernel
theorem dX5_show_53 : decode cX5_show 53 = .ok (.iadd, 1) := by decide +kernel
theorem dX5_show_54 : decode cX5_show 54 = .ok (.iaload, 1) := by decide +kernel
theorem dX5_show_55 : decode cX5_show 55 = .ok (.if_icmp .ne 35, 3) := by decide +kernel
theorem dX5_show_58 : decode cX5_show 58 = .ok (.aload_n 0, 1) := by decide +kernel
theorem dX5_show_59 : decode cX5_show 59 = .ok (.aload_n 0, 1) := by decide +kernel
theorem dX5_show_60 : decode cX5_show 60 = .ok (.getfield 31, 3) := by decide +kernel
theorem dX5_show_63 : decode cX5_show 63 = .ok (.iload_n 2, 1) := by decide +kernel
theorem dX5_show_64 : decode cX5_show 64 = .ok (.invokevirtual 133, 3) := by decide +kernel
theorem dX5_show_67 : decode cX5_show 67 = .ok (.iload_n 3, 1) := by decide +kernel
theorem dX5_show_68 : decode cX5_show 68 = .ok (.invokestatic 140, 3) := by decide +kernel
theorem dX5_show_71 : decode cX5_show 71 = .ok (.ifCond .eq 19, 3) := by decide +kernel
theorem dX5_show_74 : decode cX5_show 74 = .ok (.aload_n 0, 1) := by decide +kernel
theorem dX5_show_75 : decode cX5_show 75 = .ok (.getfield 31, 3) := by decide +kernel
theorem dX5_show_78 : decode cX5_show 78 = .ok (.bipush 10, 2) := by decide +kernel
theorem dX5_show_80 : decode cX5_show 80 = .ok (.iload_n 1, 1) := by decide +kernel
theorem dX5_show_81 : decode cX5_show 81 = .ok (.iadd, 1) := by decide +kernel
theorem dX5_show_82 : decode cX5_show 82 = .ok (.iaload, 1) := by decide +kernel
theorem dX5_show_83 : decode cX5_show 83 = .ok (.iload_n 3, 1) := by decide +kernel
theorem dX5_show_84 : decode cX5_show 84 = .ok (.invokestatic 140, 3) := by decide +kernel
theorem dX5_show_87 : decode cX5_show 87 = .ok (.ifCond .eq 6, 3) := by decide +kernel
theorem dX5_show_90 : decode cX5_show 90 = .ok (.bipush (-3), 2) := by decide +kernel
theorem dX5_show_92 : decode cX5_show 92 = .ok (.ireturn, 1) := by decide +kernel
theorem dX5_show_93 : decode cX5_show 93 = .ok (.aload_n 0, 1) := by decide +kernel
theorem dX5_show_94 : decode cX5_show 94 = .ok (.invokevirtual 168, 3) := by decide +kernel
theorem dX5_show_97 : decode cX5_show 97 = .ok (.aload_n 0, 1) := by decide +kernel
theorem dX5_show_98 : decode cX5_show 98 = .ok (.getfield 31, 3) := by decide +kernel
theorem dX5_show_101 : decode cX5_show 101 = .ok (.bipush 10, 2) := by decide +kernel
theorem dX5_show_103 : decode cX5_show 103 = .ok (.iload_n 1, 1) := by decide +kernel
theorem dX5_show_104 : decode cX5_show 104 = .ok (.iadd, 1) := by decide +kernel
theorem dX5_show_105 : decode cX5_show 105 = .ok (.dup2, 1) := by decide +kernel
theorem dX5_show_106 : decode cX5_show 106 = .ok (.iaload, 1) := by decide +kernel
theorem dX5_show_107 : decode cX5_show 107 = .ok (.iconst 1, 1) := by decide +kernel
theorem dX5_show_108 : decode cX5_show 108 = .ok (.iload_n 3, 1) := by decide +kernel
theorem dX5_show_109 : decode cX5_show 109 = .ok (.ishl, 1) := by decide +kernel
theorem dX5_show_110 : decode cX5_show 110 = .ok (.ior, 1) := by decide +kernel
theorem dX5_show_111 : decode cX5_show 111 = .ok (.iastore, 1) := by decide +kernel
theorem dX5_show_112 : decode cX5_show 112 = .ok (.aload_n 0, 1) := by decide +kernel
theorem dX5_show_113 : decode cX5_show 113 = .ok (.getfield 31, 3) := by decide +kernel
theorem dX5_show_116 : decode cX5_show 116 = .ok (.bipush 10, 2) := by decide +kernel
theorem dX5_show_118 : decode cX5_show 118 = .ok (.iload_n 1, 1) := by decide +kernel
theorem dX5_show_119 : decode cX5_show 119 = .ok (.iadd, 1) := by decide +kernel
theorem dX5_show_120 : decode cX5_show 120 = .ok (.iaload, 1) := by decide +kernel
theorem dX5_show_121 : decode cX5_show 121 = .ok (.invokestatic 161, 3) := by decide +kernel
theorem dX5_show_124 : decode cX5_show 124 = .ok (.ireturn, 1) := by decide +kernel
theorem dX5_sell_0 : decode cX5_sell 0 = .ok (.aload_n 0, 1) := by decide +kernel
theorem dX5_sell_1 : decode cX5_sell 1 = .ok (.iconst 0, 1) := by decide +kernel
theorem dX5_sell_2 : decode cX5_sell 2 = .ok (.putfield 68, 3) := by decide +kernel
theorem dX5_sell_5 : decode cX5_sell 5 = .ok (.aload_n 0, 1) := by decide +kernel
theorem dX5_sell_6 : decode cX5_sell 6 = .ok (.iload_n 1, 1) := by decide +kernel
theorem dX5_sell_7 : decode cX5_sell 7 = .ok (.invokevirtual 151, 3) := by decide +kernel
theorem dX5_sell_10 : decode cX5_sell 10 = .ok (.ifCond .eq 5, 3) := by decide +kernel
theorem dX5_sell_13 : decode cX5_sell 13 = .ok (.iconst (-1), 1) := by decide +kernel
theorem dX5_sell_14 : decode cX5_sell 14 = .ok (.ireturn, 1) := by decide +kernel
theorem dX5_sell_15 : decode cX5_sell 15 = .ok (.aload_n 0, 1) := by decide +kernel
theorem dX5_sell_16 : decode cX5_sell 16 = .ok (.getfield 31, 3) := by decide +kernel
theorem dX5_sell_19 : decode cX5_sell 19 = .ok (.iconst 5, 1) := by decide +kernel
theorem dX5_sell_20 : decode cX5_sell 20 = .ok (.iload_n 1, 1) := by decide +kernel
theorem dX5_sell_21 : decode cX5_sell 21 = .ok (.iadd, 1) := by decide +kernel
theorem dX5_sell_22 : decode cX5_sell 22 = .ok (.iaload, 1) := by decide +kernel
theorem dX5_sell_23 : decode cX5_sell 23 = .ok (.istore_n 2, 1) := by decide +kernel
theorem dX5_sell_24 : decode cX5_sell 24 = .ok (.iload_n 2, 1) := by decide +kernel
theorem dX5_sell_25 : decode cX5_sell 25 = .ok (.iconst 3, 1) := by decide +kernel
theorem dX5_sell_26 : decode cX5_sell 26 = .ok (.if_icmp .ne 6, 3) := by decide +kernel
theorem dX5_sell_29 : decode cX5_sell 29 = .ok (.bipush (-3), 2) := by decide +kernel
theorem dX5_sell_31 : decode cX5_sell 31 = .ok (.ireturn, 1) := by decide +kernel
theorem dX5_sell_32 : decode cX5_sell 32 = .ok (.aload_n 0, 1) := by decide +kernel
theorem dX5_sell_33 : decode cX5_sell 33 = .ok (.invokevirtual 168, 3) := by decide +kernel
theorem dX5_sell_36 : decode cX5_sell 36 = .ok (.aload_n 0, 1) := by decide +kernel
theorem dX5_sell_37 : decode cX5_sell 37 = .ok (.getfield 31, 3) := by decide +kernel
theorem dX5_sell_40 : decode cX5_sell 40 = .ok (.iconst 5, 1) := by decide +kernel
theorem dX5_sell_41 : decode cX5_sell 41 = .ok (.iload_n 1, 1) := by decide +kernel
theorem dX5_sell_42 : decode cX5_sell 42 = .ok (.iadd, 1) := by decide +kernel
theorem dX5_sell_43 : decode cX5_sell 43 = .ok (.iconst 3, 1) := by decide +kernel
theorem dX5_sell_44 : decode cX5_sell 44 = .ok (.iastore, 1) := by decide +kernel
theorem dX5_sell_45 : decode cX5_sell 45 = .ok (.iload_n 2, 1) := by decide +kernel
theorem dX5_sell_46 : decode cX5_sell 46 = .ok (.ireturn, 1) := by decide +kernel
theorem dX5_forget_0 : decode cX5_forget 0 = .ok (.aload_n 0, 1) := by decide +kernel
theorem dX5_forget_1 : decode cX5_forget 1 = .ok (.iconst 0, 1) := by decide +kernel
theorem dX5_forget_2 : decode cX5_forget 2 = .ok (.putfield 68, 3) := by decide +kernel
theorem dX5_forget_5 : decode cX5_forget 5 = .ok (.aload_n 0, 1) := by decide +kernel
theorem dX5_forget_6 : decode cX5_forget 6 = .ok (.iload_n 1, 1) := by decide +kernel
theorem dX5_forget_7 : decode cX5_forget 7 = .ok (.invokevirtual 151, 3) := by decide +kernel
theorem dX5_forget_10 : decode cX5_forget 10 = .ok (.ifCond .eq 5, 3) := by decide +kernel
theorem dX5_forget_13 : decode cX5_forget 13 = .ok (.iconst (-1), 1) := by decide +kernel
theorem dX5_forget_14 : decode cX5_forget 14 = .ok (.ireturn, 1) := by decide +kernel
theorem dX5_forget_15 : decode cX5_forget 15 = .ok (.aload_n 0, 1) := by decide +kernel
theorem dX5_forget_16 : decode cX5_forget 16 = .ok (.getfield 31, 3) := by decide +kernel
theorem dX5_forget_19 : decode cX5_forget 19 = .ok (.bipush 10, 2) := by decide +kernel
theorem dX5_forget_21 : decode cX5_forget 21 = .ok (.iload_n 1, 1) := by decide +kernel
theorem dX5_forget_22 : decode cX5_forget 22 = .ok (.iadd, 1) := by decide +kernel
theorem dX5_forget_23 : decode cX5_forget 23 = .ok (.iaload, 1) := by decide +kernel
theorem dX5_forget_24 : decode cX5_forget 24 = .ok (.invokestatic 161, 3) := by decide +kernel
theorem dX5_forget_27 : decode cX5_forget 27 = .ok (.istore_n 2, 1) := by decide +kernel
theorem dX5_forget_28 : decode cX5_forget 28 = .ok (.iload_n 2, 1) := by decide +kernel
theorem dX5_forget_29 : decode cX5_forget 29 = .ok (.ifCond .ne 6, 3) := by decide +kernel
theorem dX5_forget_32 : decode cX5_forget 32 = .ok (.bipush (-3), 2) := by decide +kernel
theorem dX5_forget_34 : decode cX5_forget 34 = .ok (.ireturn, 1) := by decide +kernel
theorem dX5_forget_35 : decode cX5_forget 35 = .ok (.aload_n 0, 1) := by decide +kernel
theorem dX5_forget_36 : decode cX5_forget 36 = .ok (.invokevirtual 168, 3) := by decide +kernel
theorem dX5_forget_39 : decode cX5_forget 39 = .ok (.aload_n 0, 1) := by decide +kernel
theorem dX5_forget_40 : decode cX5_forget 40 = .ok (.getfield 31, 3) := by decide +kernel
theorem dX5_forget_43 : decode cX5_forget 43 = .ok (.bipush 10, 2) := by decide +kernel
theorem dX5_forget_45 : decode cX5_forget 45 = .ok (.iload_n 1, 1) := by decide +kernel
theorem dX5_forget_46 : decode cX5_forget 46 = .ok (.iadd, 1) := by decide +kernel
theorem dX5_forget_47 : decode cX5_forget 47 = .ok (.iconst 0, 1) := by decide +kernel
theorem dX5_forget_48 : decode cX5_forget 48 = .ok (.iastore, 1) := by decide +kernel
theorem dX5_forget_49 : decode cX5_forget 49 = .ok (.iload_n 2, 1) := by decide +kernel
theorem dX5_forget_50 : decode cX5_forget 50 = .ok (.ireturn, 1) := by decide +kernel
theorem dX5_undo_0 : decode cX5_undo 0 = .ok (.aload_n 0, 1) := by decide +kernel
theorem dX5_undo_1 : decode cX5_undo 1 = .ok (.iconst 0, 1) := by decide +kernel
theorem dX5_undo_2 : decode cX5_undo 2 = .ok (.putfield 68, 3) := by decide +kernel
theorem dX5_undo_5 : decode cX5_undo 5 = .ok (.aload_n 0, 1) := by decide +kernel
theorem dX5_undo_6 : decode cX5_undo 6 = .ok (.getfield 114, 3) := by decide +kernel
theorem dX5_undo_9 : decode cX5_undo 9 = .ok (.ifCond .ne 6, 3) := by decide +kernel
theorem dX5_undo_12 : decode cX5_undo 12 = .ok (.bipush (-3), 2) := by decide +kernel
theorem dX5_undo_14 : decode cX5_undo 14 = .ok (.ireturn, 1) := by decide +kernel
theorem dX5_undo_15 : decode cX5_undo 15 = .ok (.aload_n 0, 1) := by decide +kernel
theorem dX5_undo_16 : decode cX5_undo 16 = .ok (.dup, 1) := by decide +kernel
theorem dX5_undo_17 : decode cX5_undo 17 = .ok (.getfield 114, 3) := by decide +kernel
theorem dX5_undo_20 : decode cX5_undo 20 = .ok (.iconst 1, 1) := by decide +kernel
theorem dX5_undo_21 : decode cX5_undo 21 = .ok (.isub, 1) := by decide +kernel
theorem dX5_undo_22 : decode cX5_undo 22 = .ok (.putfield 114, 3) := by decide +kernel
theorem dX5_undo_25 : decode cX5_undo 25 = .ok (.iconst 0, 1) := by decide +kernel
theorem dX5_undo_26 : decode cX5_undo 26 = .ok (.istore_n 1, 1) := by decide +kernel
theorem dX5_undo_27 : decode cX5_undo 27 = .ok (.iload_n 1, 1) := by decide +kernel
theorem dX5_undo_28 : decode cX5_undo 28 = .ok (.bipush 17, 2) := by decide +kernel
theorem dX5_undo_30 : decode cX5_undo 30 = .ok (.if_icmp .ge 29, 3) := by decide +kernel
theorem dX5_undo_33 : decode cX5_undo 33 = .ok (.aload_n 0, 1) := by decide +kernel
theorem dX5_undo_34 : decode cX5_undo 34 = .ok (.getfield 31, 3) := by decide +kernel
theorem dX5_undo_37 : decode cX5_undo 37 = .ok (.iload_n 1, 1) := by decide +kernel
theorem dX5_undo_38 : decode cX5_undo 38 = .ok (.aload_n 0, 1) := by decide +kernel
theorem dX5_undo_39 : decode cX5_undo 39 = .ok (.getfield 37, 3) := by decide +kernel
theorem dX5_undo_42 : decode cX5_undo 42 = .ok (.bipush 17, 2) := by decide +kernel
theorem dX5_undo_44 : decode cX5_undo 44 = .ok (.aload_n 0, 1) := by decide +kernel
theorem dX5_undo_45 : decode cX5_undo 45 = .ok (.getfield 114, 3) := by decide +kernel
theorem dX5_undo_48 : decode cX5_undo 48 = .ok (.imul, 1) := by decide +kernel
theorem dX5_undo_49 : decode cX5_undo 49 = .ok (.iload_n 1, 1) := by decide +kernel
theorem dX5_undo_50 : decode cX5_undo 50 = .ok (.iadd, 1) := by decide +kernel
theorem dX5_undo_51 : decode cX5_undo 51 = .ok (.iaload, 1) := by decide +kernel
theorem dX5_undo_52 : decode cX5_undo 52 = .ok (.iastore, 1) := by decide +kernel
theorem dX5_undo_53 : decode cX5_undo 53 = .ok (.iinc 1 1, 3) := by decide +kernel
theorem dX5_undo_56 : decode cX5_undo 56 = .ok (.goto (-29), 3) := by decide +kernel
theorem dX5_undo_59 : decode cX5_undo 59 = .ok (.aload_n 0, 1) := by decide +kernel
theorem dX5_undo_60 : decode cX5_undo 60 = .ok (.getfield 114, 3) := by decide +kernel
theorem dX5_undo_63 : decode cX5_undo 63 = .ok (.ireturn, 1) := by decide +kernel
theorem dX5_begin_0 : decode cX5_begin 0 = .ok (.iconst 0, 1) := by decide +kernel
theorem dX5_begin_1 : decode cX5_begin 1 = .ok (.istore_n 1, 1) := by decide +kernel
theorem dX5_begin_2 : decode cX5_begin 2 = .ok (.iload_n 1, 1) := by decide +kernel
theorem dX5_begin_3 : decode cX5_begin 3 = .ok (.bipush 17, 2) := by decide +kernel
theorem dX5_begin_5 : decode cX5_begin 5 = .ok (.if_icmp .ge 21, 3) := by decide +kernel
theorem dX5_begin_8 : decode cX5_begin 8 = .ok (.aload_n 0, 1) := by decide +kernel
theorem dX5_begin_9 : decode cX5_begin 9 = .ok (.getfield 34, 3) := by decide +kernel
theorem dX5_begin_12 : decode cX5_begin 12 = .ok (.iload_n 1, 1) := by decide +kernel
theorem dX5_begin_13 : decode cX5_begin 13 = .ok (.aload_n 0, 1) := by decide +kernel
theorem dX5_begin_14 : decode cX5_begin 14 = .ok (.getfield 31, 3) := by decide +kernel
theorem dX5_begin_17 : decode cX5_begin 17 = .ok (.iload_n 1, 1) := by decide +kernel
theorem dX5_begin_18 : decode cX5_begin 18 = .ok (.iaload, 1) := by decide +kernel
theorem dX5_begin_19 : decode cX5_begin 19 = .ok (.iastore, 1) := by decide +kernel
theorem dX5_begin_20 : decode cX5_begin 20 = .ok (.iinc 1 1, 3) := by decide +kernel
theorem dX5_begin_23 : decode cX5_begin 23 = .ok (.goto (-21), 3) := by decide +kernel
theorem dX5_begin_26 : decode cX5_begin 26 = .ok (.return_, 1) := by decide +kernel
theorem dX5_layWays_0 : decode cX5_layWays 0 = .ok (.aload_n 0, 1) := by decide +kernel
theorem dX5_layWays_1 : decode cX5_layWays 1 = .ok (.invokevirtual 175, 3) := by decide +kernel
theorem dX5_layWays_4 : decode cX5_layWays 4 = .ok (.iconst 0, 1) := by decide +kernel
theorem dX5_layWays_5 : decode cX5_layWays 5 = .ok (.istore_n 3, 1) := by decide +kernel
theorem dX5_layWays_6 : decode cX5_layWays 6 = .ok (.iload_n 3, 1) := by decide +kernel
theorem dX5_layWays_7 : decode cX5_layWays 7 = .ok (.bipush 10, 2) := by decide +kernel
theorem dX5_layWays_9 : decode cX5_layWays 9 = .ok (.if_icmp .ge 17, 3) := by decide +kernel
theorem dX5_layWays_12 : decode cX5_layWays 12 = .ok (.aload_n 0, 1) := by decide +kernel
theorem dX5_layWays_13 : decode cX5_layWays 13 = .ok (.getfield 62, 3) := by decide +kernel
theorem dX5_layWays_16 : decode cX5_layWays 16 = .ok (.iload_n 3, 1) := by decide +kernel
theorem dX5_layWays_17 : decode cX5_layWays 17 = .ok (.bipush (-9), 2) := by decide +kernel
theorem dX5_layWays_19 : decode cX5_layWays 19 = .ok (.iastore, 1) := by decide +kernel
theorem dX5_layWays_20 : decode cX5_layWays 20 = .ok (.iinc 3 1, 3) := by decide +kernel
theorem dX5_layWays_23 : decode cX5_layWays 23 = .ok (.goto (-17), 3) := by decide +kernel
theorem dX5_layWays_26 : decode cX5_layWays 26 = .ok (.aload_n 0, 1) := by decide +kernel
theorem dX5_layWays_27 : decode cX5_layWays 27 = .ok (.getfield 62, 3) := by decide +kernel
theorem dX5_layWays_30 : decode cX5_layWays 30 = .ok (.aload_n 0, 1) := by decide +kernel
theorem dX5_layWays_31 : decode cX5_layWays 31 = .ok (.getfield 31, 3) := by decide +kernel
theorem dX5_layWays_34 : decode cX5_layWays 34 = .ok (.iconst 0, 1) := by decide +kernel
theorem dX5_layWays_35 : decode cX5_layWays 35 = .ok (.iload_n 1, 1) := by decide +kernel
theorem dX5_layWays_36 : decode cX5_layWays 36 = .ok (.iadd, 1) := by decide +kernel
theorem dX5_layWays_37 : decode cX5_layWays 37 = .ok (.iaload, 1) := by decide +kernel
theorem dX5_layWays_38 : decode cX5_layWays 38 = .ok (.iconst 0, 1) := by decide +kernel
theorem dX5_layWays_39 : decode cX5_layWays 39 = .ok (.iastore, 1) := by decide +kernel
theorem dX5_layWays_40 : decode cX5_layWays 40 = .ok (.iconst 0, 1) := by decide +kernel
theorem dX5_layWays_41 : decode cX5_layWays 41 = .ok (.istore_n 3, 1) := by decide +kernel
theorem dX5_layWays_42 : decode cX5_layWays 42 = .ok (.iload_n 3, 1) := by decide +kernel
theorem dX5_layWays_43 : decode cX5_layWays 43 = .ok (.bipush 12, 2) := by decide +kernel
theorem dX5_layWays_45 : decode cX5_layWays 45 = .ok (.if_icmp .ge 186, 3) := by decide +kernel
theorem dX5_layWays_48 : decode cX5_layWays 48 = .ok (.aload_n 0, 1) := by decide +kernel
theorem dX5_layWays_49 : decode cX5_layWays 49 = .ok (.getfield 34, 3) := by decide +kernel
theorem dX5_layWays_52 : decode cX5_layWays 52 = .ok (.bipush 15, 2) := by decide +kernel
theorem dX5_layWays_54 : decode cX5_layWays 54 = .ok (.aload_n 0, 1) := by decide +kernel
theorem dX5_layWays_55 : decode cX5_layWays 55 = .ok (.getfield 31, 3) := by decide +kernel
theorem dX5_layWays_58 : decode cX5_layWays 58 = .ok (.bipush 15, 2) := by decide +kernel
theorem dX5_layWays_60 : decode cX5_layWays 60 = .ok (.iaload, 1) := by decide +kernel
theorem dX5_layWays_61 : decode cX5_layWays 61 = .ok (.iload_n 3, 1) := by decide +kernel
theorem dX5_layWays_62 : decode cX5_layWays 62 = .ok (.iadd, 1) := by decide +kernel
theorem dX5_layWays_63 : decode cX5_layWays 63 = .ok (.iastore, 1) := by decide +kernel
theorem dX5_layWays_64 : decode cX5_layWays 64 = .ok (.iconst 0, 1) := by decide +kernel
theorem dX5_layWays_65 : decode cX5_layWays 65 = .ok (.istore 4, 2) := by decide +kernel
theorem dX5_layWays_67 : decode cX5_layWays 67 = .ok (.iload 4, 2) := by decide +kernel
theorem dX5_layWays_69 : decode cX5_layWays 69 = .ok (.bipush 10, 2) := by decide +kernel
theorem dX5_layWays_71 : decode cX5_layWays 71 = .ok (.if_icmp .ge 154, 3) := by decide +kernel
theorem dX5_layWays_74 : decode cX5_layWays 74 = .ok (.iconst 0, 1) := by decide +kernel
theorem dX5_layWays_75 : decode cX5_layWays 75 = .ok (.istore 5, 2) := by decide +kernel
theorem dX5_layWays_77 : decode cX5_layWays 77 = .ok (.iload 5, 2) := by decide +kernel
theorem dX5_layWays_79 : decode cX5_layWays 79 = .ok (.iconst 2, 1) := by decide +kernel
theorem dX5_layWays_80 : decode cX5_layWays 80 = .ok (.if_icmp .ge 139, 3) := by decide +kernel
theorem dX5_layWays_83 : decode cX5_layWays 83 = .ok (.aload_n 0, 1) := by decide +kernel
theorem dX5_layWays_84 : decode cX5_layWays 84 = .ok (.getfield 34, 3) := by decide +kernel
theorem dX5_layWays_87 : decode cX5_layWays 87 = .ok (.iconst 0, 1) := by decide +kernel
theorem dX5_layWays_88 : decode cX5_layWays 88 = .ok (.iload_n 1, 1) := by decide +kernel
theorem dX5_layWays_89 : decode cX5_layWays 89 = .ok (.iadd, 1) := by decide +kernel
theorem dX5_layWays_90 : decode cX5_layWays 90 = .ok (.iload 4, 2) := by decide +kernel
theorem dX5_layWays_92 : decode cX5_layWays 92 = .ok (.iastore, 1) := by decide +kernel
theorem dX5_layWays_93 : decode cX5_layWays 93 = .ok (.aload_n 0, 1) := by decide +kernel
theorem dX5_layWays_94 : decode cX5_layWays 94 = .ok (.getfield 34, 3) := by decide +kernel
theorem dX5_layWays_97 : decode cX5_layWays 97 = .ok (.iload_n 1, 1) := by decide +kernel
theorem dX5_layWays_98 : decode cX5_layWays 98 = .ok (.iload 5, 2) := by decide +kernel
theorem dX5_layWays_100 : decode cX5_layWays 100 = .ok (.invokestatic 119, 3) := by decide +kernel
theorem dX5_layWays_103 : decode cX5_layWays 103 = .ok (.istore 6, 2) := by decide +kernel
theorem dX5_layWays_105 : decode cX5_layWays 105 = .ok (.aload_n 0, 1) := by decide +kernel
theorem dX5_layWays_106 : decode cX5_layWays 106 = .ok (.getfield 62, 3) := by decide +kernel
theorem dX5_layWays_109 : decode cX5_layWays 109 = .ok (.iload 4, 2) := by decide +kernel
theorem dX5_layWays_111 : decode cX5_layWays 111 = .ok (.iaload, 1) := by decide +kernel
theorem dX5_layWays_112 : decode cX5_layWays 112 = .ok (.bipush (-9), 2) := by decide +kernel
theorem dX5_layWays_114 : decode cX5_layWays 114 = .ok (.if_icmp .eq 37, 3) := by decide +kernel
theorem dX5_layWays_117 : decode cX5_layWays 117 = .ok (.aload_n 0, 1) := by decide +kernel
theorem dX5_layWays_118 : decode cX5_layWays 118 = .ok (.getfield 62, 3) := by decide +kernel
theorem dX5_layWays_121 : decode cX5_layWays 121 = .ok (.iload 4, 2) := by decide +kernel
theorem dX5_layWays_123 : decode cX5_layWays 123 = .ok (.iaload, 1) := by decide +kernel
theorem dX5_layWays_124 : decode cX5_layWays 124 = .ok (.iload_n 3, 1) := by decide +kernel
theorem dX5_layWays_125 : decode cX5_layWays 125 = .ok (.if_icmp .gt 26, 3) := by decide +kernel
theorem dX5_layWays_128 : decode cX5_layWays 128 = .ok (.iload 6, 2) := by decide +kernel
theorem dX5_layWays_130 : decode cX5_layWays 130 = .ok (.bipush (-9), 2) := by decide +kernel
theorem dX5_layWays_132 : decode cX5_layWays 132 = .ok (.if_icmp .eq 19, 3) := by decide +kernel
theorem dX5_layWays_135 : decode cX5_layWays 135 = .ok (.aload_n 0, 1) := by decide +kernel
theorem dX5_layWays_136 : decode cX5_layWays 136 = .ok (.getfield 62, 3) := by decide +kernel
theorem dX5_layWays_139 : decode cX5_layWays 139 = .ok (.iload 6, 2) := by decide +kernel
theorem dX5_layWays_141 : decode cX5_layWays 141 = .ok (.iaload, 1) := by decide +kernel
theorem dX5_layWays_142 : decode cX5_layWays 142 = .ok (.bipush (-9), 2) := by decide +kernel
theorem dX5_layWays_144 : decode cX5_layWays 144 = .ok (.if_icmp .ne 7, 3) := by decide +kernel
theorem dX5_layWays_147 : decode cX5_layWays 147 = .ok (.iconst 1, 1) := by decide +kernel
theorem dX5_layWays_148 : decode cX5_layWays 148 = .ok (.goto 4, 3) := by decide +kernel
theorem dX5_layWays_151 : decode cX5_layWays 151 = .ok (.iconst 0, 1) := by decide +kernel
theorem dX5_layWays_152 : decode cX5_layWays 152 = .ok (.istore 7, 2) := by decide +kernel
theorem dX5_layWays_154 : decode cX5_layWays 154 = .ok (.iload_n 2, 1) := by decide +kernel
theorem dX5_layWays_155 : decode cX5_layWays 155 = .ok (.ifCond .eq 25, 3) := by decide +kernel
theorem dX5_layWays_158 : decode cX5_layWays 158 = .ok (.aload_n 0, 1) := by decide +kernel
theorem dX5_layWays_159 : decode cX5_layWays 159 = .ok (.aload_n 0, 1) := by decide +kernel
theorem dX5_layWays_160 : decode cX5_layWays 160 = .ok (.getfield 34, 3) := by decide +kernel
theorem dX5_layWays_163 : decode cX5_layWays 163 = .ok (.iload_n 1, 1) := by decide +kernel
theorem dX5_layWays_164 : decode cX5_layWays 164 = .ok (.iload 5, 2) := by decide +kernel
theorem dX5_layWays_166 : decode cX5_layWays 166 = .ok (.invokevirtual 130, 3) := by decide +kernel
theorem dX5_layWays_169 : decode cX5_layWays 169 = .ok (.ifCond .eq 7, 3) := by decide +kernel
theorem dX5_layWays_172 : decode cX5_layWays 172 = .ok (.iconst 1, 1) := by decide +kernel
theorem dX5_layWays_173 : decode cX5_layWays 173 = .ok (.goto 18, 3) := by decide +kernel
theorem dX5_layWays_176 : decode cX5_layWays 176 = .ok (.iconst 0, 1) := by decide +kernel
theorem dX5_layWays_177 : decode cX5_layWays 177 = .ok (.goto 14, 3) := by decide +kernel
theorem dX5_layWays_180 : decode cX5_layWays 180 = .ok (.aload_n 0, 1) := by decide +kernel
theorem dX5_layWays_181 : decode cX5_layWays 181 = .ok (.aload_n 0, 1) := by decide +kernel
theorem dX5_layWays_182 : decode cX5_layWays 182 = .ok (.getfield 34, 3) := by decide +kernel
theorem dX5_layWays_185 : decode cX5_layWays 185 = .ok (.iload_n 1, 1) := by decide +kernel
theorem dX5_layWays_186 : decode cX5_layWays 186 = .ok (.iload 5, 2) := by decide +kernel
theorem dX5_layWays_188 : decode cX5_layWays 188 = .ok (.invokevirtual 164, 3) := by decide +kernel
theorem dX5_layWays_191 : decode cX5_layWays 191 = .ok (.istore 8, 2) := by decide +kernel
theorem dX5_layWays_193 : decode cX5_layWays 193 = .ok (.iload 7, 2) := by decide +kernel
theorem dX5_layWays_195 : decode cX5_layWays 195 = .ok (.ifCond .eq 18, 3) := by decide +kernel
theorem dX5_layWays_198 : decode cX5_layWays 198 = .ok (.iload 8, 2) := by decide +kernel
theorem dX5_layWays_200 : decode cX5_layWays 200 = .ok (.ifCond .ne 13, 3) := by decide +kernel
theorem dX5_layWays_203 : decode cX5_layWays 203 = .ok (.aload_n 0, 1) := by decide +kernel
theorem dX5_layWays_204 : decode cX5_layWays 204 = .ok (.getfield 62, 3) := by decide +kernel
theorem dX5_layWays_207 : decode cX5_layWays 207 = .ok (.iload 6, 2) := by decide +kernel
theorem dX5_layWays_209 : decode cX5_layWays 209 = .ok (.iload_n 3, 1) := by decide +kernel
theorem dX5_layWays_210 : decode cX5_layWays 210 = .ok (.iconst 1, 1) := by decide +kernel
theorem dX5_layWays_211 : decode cX5_layWays 211 = .ok (.iadd, 1) := by decide +kernel
theorem dX5_layWays_212 : decode cX5_layWays 212 = .ok (.iastore, 1) := by decide +kernel
theorem dX5_layWays_213 : decode cX5_layWays 213 = .ok (.iinc 5 1, 3) := by decide +kernel
theorem dX5_layWays_216 : decode cX5_layWays 216 = .ok (.goto (-139), 3) := by decide +kernel
theorem dX5_layWays_219 : decode cX5_layWays 219 = .ok (.iinc 4 1, 3) := by decide +kernel
theorem dX5_layWays_222 : decode cX5_layWays 222 = .ok (.goto (-155), 3) := by decide +kernel
theorem dX5_layWays_225 : decode cX5_layWays 225 = .ok (.iinc 3 1, 3) := by decide +kernel
theorem dX5_layWays_228 : decode cX5_layWays 228 = .ok (.goto (-186), 3) := by decide +kernel
theorem dX5_layWays_231 : decode cX5_layWays 231 = .ok (.return_, 1) := by decide +kernel
theorem dX5_way_0 : decode cX5_way 0 = .ok (.aload_n 0, 1) := by decide +kernel
theorem dX5_way_1 : decode cX5_way 1 = .ok (.iconst 0, 1) := by decide +kernel
theorem dX5_way_2 : decode cX5_way 2 = .ok (.putfield 68, 3) := by decide +kernel
theorem dX5_way_5 : decode cX5_way 5 = .ok (.aload_n 0, 1) := by decide +kernel
theorem dX5_way_6 : decode cX5_way 6 = .ok (.iload_n 1, 1) := by decide +kernel
theorem dX5_way_7 : decode cX5_way 7 = .ok (.invokevirtual 151, 3) := by decide +kernel
theorem dX5_way_10 : decode cX5_way 10 = .ok (.ifCond .ne 15, 3) := by decide +kernel
theorem dX5_way_13 : decode cX5_way 13 = .ok (.iload_n 2, 1) := by decide +kernel
theorem dX5_way_14 : decode cX5_way 14 = .ok (.i2l, 1) := by decide +kernel
theorem dX5_way_15 : decode cX5_way 15 = .ok (.lconst 0, 1) := by decide +kernel
theorem dX5_way_16 : decode cX5_way 16 = .ok (.ldc2_w 117, 3) := by decide +kernel
theorem dX5_way_19 : decode cX5_way 19 = .ok (.invokestatic 75, 3) := by decide +kernel
theorem dX5_way_22 : decode cX5_way 22 = .ok (.ifCond .ne 5, 3) := by decide +kernel
theorem dX5_way_25 : decode cX5_way 25 = .ok (.iconst (-1), 1) := by decide +kernel
theorem dX5_way_26 : decode cX5_way 26 = .ok (.ireturn, 1) := by decide +kernel
theorem dX5_way_27 : decode cX5_way 27 = .ok (.aload_n 0, 1) := by decide +kernel
theorem dX5_way_28 : decode cX5_way 28 = .ok (.iload_n 1, 1) := by decide +kernel
theorem dX5_way_29 : decode cX5_way 29 = .ok (.iload_n 3, 1) := by decide +kernel
theorem dX5_way_30 : decode cX5_way 30 = .ok (.invokevirtual 178, 3) := by decide +kernel
theorem dX5_way_33 : decode cX5_way 33 = .ok (.aload_n 0, 1) := by decide +kernel
theorem dX5_way_34 : decode cX5_way 34 = .ok (.getfield 62, 3) := by decide +kernel
theorem dX5_way_37 : decode cX5_way 37 = .ok (.iload_n 2, 1) := by decide +kernel
theorem dX5_way_38 : decode cX5_way 38 = .ok (.iaload, 1) := by decide +kernel
theorem dX5_way_39 : decode cX5_way 39 = .ok (.ireturn, 1) := by decide +kernel
theorem dX5_enclaves_0 : decode cX5_enclaves 0 = .ok (.aload_n 0, 1) := by decide +kernel
theorem dX5_enclaves_1 : decode cX5_enclaves 1 = .ok (.iconst 0, 1) := by decide +kernel
theorem dX5_enclaves_2 : decode cX5_enclaves 2 = .ok (.putfield 68, 3) := by decide +kernel
theorem dX5_enclaves_5 : decode cX5_enclaves 5 = .ok (.aload_n 0, 1) := by decide +kernel
theorem dX5_enclaves_6 : decode cX5_enclaves 6 = .ok (.iload_n 1, 1) := by decide +kernel
theorem dX5_enclaves_7 : decode cX5_enclaves 7 = .ok (.invokevirtual 151, 3) := by decide +kernel
theorem dX5_enclaves_10 : decode cX5_enclaves 10 = .ok (.ifCond .eq 5, 3) := by decide +kernel
theorem dX5_enclaves_13 : decode cX5_enclaves 13 = .ok (.iconst (-1), 1) := by decide +kernel
theorem dX5_enclaves_14 : decode cX5_enclaves 14 = .ok (.ireturn, 1) := by decide +kernel
theorem dX5_enclaves_15 : decode cX5_enclaves 15 = .ok (.aload_n 0, 1) := by decide +kernel
theorem dX5_enclaves_16 : decode cX5_enclaves 16 = .ok (.iload_n 1, 1) := by decide +kernel
theorem dX5_enclaves_17 : decode cX5_enclaves 17 = .ok (.iconst 0, 1) := by decide +kernel
theorem dX5_enclaves_18 : decode cX5_enclaves 18 = .ok (.invokevirtual 178, 3) := by decide +kernel
theorem dX5_enclaves_21 : decode cX5_enclaves 21 = .ok (.iconst 0, 1) := by decide +kernel
theorem dX5_enclaves_22 : decode cX5_enclaves 22 = .ok (.istore_n 2, 1) := by decide +kernel
theorem dX5_enclaves_23 : decode cX5_enclaves 23 = .ok (.iconst 0, 1) := by decide +kernel
theorem dX5_enclaves_24 : decode cX5_enclaves 24 = .ok (.istore_n 3, 1) := by decide +kernel
theorem dX5_enclaves_25 : decode cX5_enclaves 25 = .ok (.iload_n 3, 1) := by decide +kernel
theorem dX5_enclaves_26 : decode cX5_enclaves 26 = .ok (.bipush 10, 2) := by decide +kernel
theorem dX5_enclaves_28 : decode cX5_enclaves 28 = .ok (.if_icmp .ge 30, 3) := by decide +kernel
theorem dX5_enclaves_31 : decode cX5_enclaves 31 = .ok (.iload_n 2, 1) := by decide +kernel
theorem dX5_enclaves_32 : decode cX5_enclaves 32 = .ok (.aload_n 0, 1) := by decide +kernel
theorem dX5_enclaves_33 : decode cX5_enclaves 33 = .ok (.getfield 62, 3) := by decide +kernel
theorem dX5_enclaves_36 : decode cX5_enclaves 36 = .ok (.iload_n 3, 1) := by decide +kernel
theorem dX5_enclaves_37 : decode cX5_enclaves 37 = .ok (.iaload, 1) := by decide +kernel
theorem dX5_enclaves_38 : decode cX5_enclaves 38 = .ok (.bipush (-9), 2) := by decide +kernel
theorem dX5_enclaves_40 : decode cX5_enclaves 40 = .ok (.if_icmp .ne 9, 3) := by decide +kernel
theorem dX5_enclaves_43 : decode cX5_enclaves 43 = .ok (.iconst 1, 1) := by decide +kernel
theorem dX5_enclaves_44 : decode cX5_enclaves 44 = .ok (.iload_n 3, 1) := by decide +kernel
theorem dX5_enclaves_45 : decode cX5_enclaves 45 = .ok (.ishl, 1) := by decide +kernel
theorem dX5_enclaves_46 : decode cX5_enclaves 46 = .ok (.goto 4, 3) := by decide +kernel
theorem dX5_enclaves_49 : decode cX5_enclaves 49 = .ok (.iconst 0, 1) := by decide +kernel
theorem dX5_enclaves_50 : decode cX5_enclaves 50 = .ok (.ior, 1) := by decide +kernel
theorem dX5_enclaves_51 : decode cX5_enclaves 51 = .ok (.istore_n 2, 1) := by decide +kernel
theorem dX5_enclaves_52 : decode cX5_enclaves 52 = .ok (.iinc 3 1, 3) := by decide +kernel
theorem dX5_enclaves_55 : decode cX5_enclaves 55 = .ok (.goto (-30), 3) := by decide +kernel
theorem dX5_enclaves_58 : decode cX5_enclaves 58 = .ok (.iload_n 2, 1) := by decide +kernel
theorem dX5_enclaves_59 : decode cX5_enclaves 59 = .ok (.ireturn, 1) := by decide +kernel
theorem dX5_holdsFast_0 : decode cX5_holdsFast 0 = .ok (.iconst 1, 1) := by decide +kernel
theorem dX5_holdsFast_1 : decode cX5_holdsFast 1 = .ok (.istore_n 2, 1) := by decide +kernel
theorem dX5_holdsFast_2 : decode cX5_holdsFast 2 = .ok (.iconst 0, 1) := by decide +kernel
theorem dX5_holdsFast_3 : decode cX5_holdsFast 3 = .ok (.istore_n 3, 1) := by decide +kernel
theorem dX5_holdsFast_4 : decode cX5_holdsFast 4 = .ok (.iload_n 3, 1) := by decide +kernel
theorem dX5_holdsFast_5 : decode cX5_holdsFast 5 = .ok (.iconst 2, 1) := by decide +kernel
theorem dX5_holdsFast_6 : decode cX5_holdsFast 6 = .ok (.if_icmp .ge 71, 3) := by decide +kernel
theorem dX5_holdsFast_9 : decode cX5_holdsFast 9 = .ok (.aload_n 0, 1) := by decide +kernel
theorem dX5_holdsFast_10 : decode cX5_holdsFast 10 = .ok (.getfield 34, 3) := by decide +kernel
theorem dX5_holdsFast_13 : decode cX5_holdsFast 13 = .ok (.iload_n 1, 1) := by decide +kernel
theorem dX5_holdsFast_14 : decode cX5_holdsFast 14 = .ok (.iload_n 3, 1) := by decide +kernel
theorem dX5_holdsFast_15 : decode cX5_holdsFast 15 = .ok (.invokestatic 119, 3) := by decide +kernel
theorem dX5_holdsFast_18 : decode cX5_holdsFast 18 = .ok (.bipush (-9), 2) := by decide +kernel
theorem dX5_holdsFast_20 : decode cX5_holdsFast 20 = .ok (.if_icmp .eq 20, 3) := by decide +kernel
theorem dX5_holdsFast_23 : decode cX5_holdsFast 23 = .ok (.aload_n 0, 1) := by decide +kernel
theorem dX5_holdsFast_24 : decode cX5_holdsFast 24 = .ok (.aload_n 0, 1) := by decide +kernel
theorem dX5_holdsFast_25 : decode cX5_holdsFast 25 = .ok (.getfield 34, 3) := by decide +kernel
theorem dX5_holdsFast_28 : decode cX5_holdsFast 28 = .ok (.iload_n 1, 1) := by decide +kernel
theorem dX5_holdsFast_29 : decode cX5_holdsFast 29 = .ok (.iload_n 3, 1) := by decide +kernel
theorem dX5_holdsFast_30 : decode cX5_holdsFast 30 = .ok (.invokevirtual 130, 3) := by decide +kernel
theorem dX5_holdsFast_33 : decode cX5_holdsFast 33 = .ok (.ifCond .eq 7, 3) := by decide +kernel
theorem dX5_holdsFast_36 : decode cX5_holdsFast 36 = .ok (.iconst 1, 1) := by decide +kernel
theorem dX5_holdsFast_37 : decode cX5_holdsFast 37 = .ok (.goto 4, 3) := by decide +kernel
theorem dX5_holdsFast_40 : decode cX5_holdsFast 40 = .ok (.iconst 0, 1) := by decide +kernel
theorem dX5_holdsFast_41 : decode cX5_holdsFast 41 = .ok (.istore 4, 2) := by decide +kernel
theorem dX5_holdsFast_43 : decode cX5_holdsFast 43 = .ok (.iload_n 2, 1) := by decide +kernel
theorem dX5_holdsFast_44 : decode cX5_holdsFast 44 = .ok (.ifCond .eq 25, 3) := by decide +kernel
theorem dX5_holdsFast_47 : decode cX5_holdsFast 47 = .ok (.iload 4, 2) := by decide +kernel
theorem dX5_holdsFast_49 : decode cX5_holdsFast 49 = .ok (.ifCond .eq 16, 3) := by decide +kernel
theorem dX5_holdsFast_52 : decode cX5_holdsFast 52 = .ok (.aload_n 0, 1) := by decide +kernel
theorem dX5_holdsFast_53 : decode cX5_holdsFast 53 = .ok (.aload_n 0, 1) := by decide +kernel
theorem dX5_holdsFast_54 : decode cX5_holdsFast 54 = .ok (.getfield 34, 3) := by decide +kernel
theorem dX5_holdsFast_57 : decode cX5_holdsFast 57 = .ok (.iload_n 1, 1) := by decide +kernel
theorem dX5_holdsFast_58 : decode cX5_holdsFast 58 = .ok (.iload_n 3, 1) := by decide +kernel
theorem dX5_holdsFast_59 : decode cX5_holdsFast 59 = .ok (.invokevirtual 164, 3) := by decide +kernel
theorem dX5_holdsFast_62 : decode cX5_holdsFast 62 = .ok (.ifCond .eq 7, 3) := by decide +kernel
theorem dX5_holdsFast_65 : decode cX5_holdsFast 65 = .ok (.iconst 1, 1) := by decide +kernel
theorem dX5_holdsFast_66 : decode cX5_holdsFast 66 = .ok (.goto 4, 3) := by decide +kernel
theorem dX5_holdsFast_69 : decode cX5_holdsFast 69 = .ok (.iconst 0, 1) := by decide +kernel
theorem dX5_holdsFast_70 : decode cX5_holdsFast 70 = .ok (.istore_n 2, 1) := by decide +kernel
theorem dX5_holdsFast_71 : decode cX5_holdsFast 71 = .ok (.iinc 3 1, 3) := by decide +kernel
theorem dX5_holdsFast_74 : decode cX5_holdsFast 74 = .ok (.goto (-70), 3) := by decide +kernel
theorem dX5_holdsFast_77 : decode cX5_holdsFast 77 = .ok (.iload_n 2, 1) := by decide +kernel
theorem dX5_holdsFast_78 : decode cX5_holdsFast 78 = .ok (.ireturn, 1) := by decide +kernel
theorem dX5_teach_0 : decode cX5_teach 0 = .ok (.aload_n 0, 1) := by decide +kernel
theorem dX5_teach_1 : decode cX5_teach 1 = .ok (.iconst 0, 1) := by decide +kernel
theorem dX5_teach_2 : decode cX5_teach 2 = .ok (.putfield 68, 3) := by decide +kernel
theorem dX5_teach_5 : decode cX5_teach 5 = .ok (.aload_n 0, 1) := by decide +kernel
theorem dX5_teach_6 : decode cX5_teach 6 = .ok (.iload_n 1, 1) := by decide +kernel
theorem dX5_teach_7 : decode cX5_teach 7 = .ok (.invokevirtual 151, 3) := by decide +kernel
theorem dX5_teach_10 : decode cX5_teach 10 = .ok (.ifCond .eq 5, 3) := by decide +kernel
theorem dX5_teach_13 : decode cX5_teach 13 = .ok (.iconst (-1), 1) := by decide +kernel
theorem dX5_teach_14 : decode cX5_teach 14 = .ok (.ireturn, 1) := by decide +kernel
theorem dX5_teach_15 : decode cX5_teach 15 = .ok (.bipush (-9), 2) := by decide +kernel
theorem dX5_teach_17 : decode cX5_teach 17 = .ok (.istore_n 2, 1) := by decide +kernel
theorem dX5_teach_18 : decode cX5_teach 18 = .ok (.iconst 0, 1) := by decide +kernel
theorem dX5_teach_19 : decode cX5_teach 19 = .ok (.istore_n 3, 1) := by decide +kernel
theorem dX5_teach_20 : decode cX5_teach 20 = .ok (.iload_n 3, 1) := by decide +kernel
theorem dX5_teach_21 : decode cX5_teach 21 = .ok (.iconst 1, 1) := by decide +kernel
theorem dX5_teach_22 : decode cX5_teach 22 = .ok (.aload_n 0, 1) := by decide +kernel
theorem dX5_teach_23 : decode cX5_teach 23 = .ok (.getfield 79, 3) := by decide +kernel
theorem dX5_teach_26 : decode cX5_teach 26 = .ok (.ishl, 1) := by decide +kernel
theorem dX5_teach_27 : decode cX5_teach 27 = .ok (.if_icmp .ge 71, 3) := by decide +kernel
theorem dX5_teach_30 : decode cX5_teach 30 = .ok (.iload_n 3, 1) := by decide +kernel
theorem dX5_teach_31 : decode cX5_teach 31 = .ok (.aload_n 0, 1) := by decide +kernel
theorem dX5_teach_32 : decode cX5_teach 32 = .ok (.aload_n 0, 1) := by decide +kernel
theorem dX5_teach_33 : decode cX5_teach 33 = .ok (.getfield 31, 3) := by decide +kernel
theorem dX5_teach_36 : decode cX5_teach 36 = .ok (.iload_n 1, 1) := by decide +kernel
theorem dX5_teach_37 : decode cX5_teach 37 = .ok (.invokevirtual 133, 3) := by decide +kernel
theorem dX5_teach_40 : decode cX5_teach 40 = .ok (.iand, 1) := by decide +kernel
theorem dX5_teach_41 : decode cX5_teach 41 = .ok (.ifCond .ne 51, 3) := by decide +kernel
theorem dX5_teach_44 : decode cX5_teach 44 = .ok (.iload_n 2, 1) := by decide +kernel
theorem dX5_teach_45 : decode cX5_teach 45 = .ok (.bipush (-9), 2) := by decide +kernel
theorem dX5_teach_47 : decode cX5_teach 47 = .ok (.if_icmp .eq 14, 3) := by decide +kernel
theorem dX5_teach_50 : decode cX5_teach 50 = .ok (.iload_n 3, 1) := by decide +kernel
theorem dX5_teach_51 : decode cX5_teach 51 = .ok (.invokestatic 161, 3) := by decide +kernel
theorem dX5_teach_54 : decode cX5_teach 54 = .ok (.iload_n 2, 1) := by decide +kernel
theorem dX5_teach_55 : decode cX5_teach 55 = .ok (.invokestatic 161, 3) := by decide +kernel
theorem dX5_teach_58 : decode cX5_teach 58 = .ok (.if_icmp .ge 34, 3) := by decide +kernel
theorem dX5_teach_61 : decode cX5_teach 61 = .ok (.aload_n 0, 1) := by decide +kernel
theorem dX5_teach_62 : decode cX5_teach 62 = .ok (.invokevirtual 175, 3) := by decide +kernel
theorem dX5_teach_65 : decode cX5_teach 65 = .ok (.aload_n 0, 1) := by decide +kernel
theorem dX5_teach_66 : decode cX5_teach 66 = .ok (.getfield 34, 3) := by decide +kernel
theorem dX5_teach_69 : decode cX5_teach 69 = .ok (.bipush 10, 2) := by decide +kernel
theorem dX5_teach_71 : decode cX5_teach 71 = .ok (.iload_n 1, 1) := by decide +kernel
theorem dX5_teach_72 : decode cX5_teach 72 = .ok (.iadd, 1) := by decide +kernel
theorem dX5_teach_73 : decode cX5_teach 73 = .ok (.dup2, 1) := by decide +kernel
theorem dX5_teach_74 : decode cX5_teach 74 = .ok (.iaload, 1) := by decide +kernel
theorem dX5_teach_75 : decode cX5_teach 75 = .ok (.iload_n 3, 1) := by decide +kernel
theorem dX5_teach_76 : decode cX5_teach 76 = .ok (.ior, 1) := by decide +kernel
theorem dX5_teach_77 : decode cX5_teach 77 = .ok (.iastore, 1) := by decide +kernel
theorem dX5_teach_78 : decode cX5_teach 78 = .ok (.aload_n 0, 1) := by decide +kernel
theorem dX5_teach_79 : decode cX5_teach 79 = .ok (.iload_n 1, 1) := by decide +kernel
theorem dX5_teach_80 : decode cX5_teach 80 = .ok (.invokevirtual 182, 3) := by decide +kernel
theorem dX5_teach_83 : decode cX5_teach 83 = .ok (.ifCond .eq 7, 3) := by decide +kernel
theorem dX5_teach_86 : decode cX5_teach 86 = .ok (.iload_n 3, 1) := by decide +kernel
theorem dX5_teach_87 : decode cX5_teach 87 = .ok (.goto 4, 3) := by decide +kernel
theorem dX5_teach_90 : decode cX5_teach 90 = .ok (.iload_n 2, 1) := by decide +kernel
theorem dX5_teach_91 : decode cX5_teach 91 = .ok (.istore_n 2, 1) := by decide +kernel
theorem dX5_teach_92 : decode cX5_teach 92 = .ok (.iinc 3 1, 3) := by decide +kernel
theorem dX5_teach_95 : decode cX5_teach 95 = .ok (.goto (-75), 3) := by decide +kernel
theorem dX5_teach_98 : decode cX5_teach 98 = .ok (.iload_n 2, 1) := by decide +kernel
theorem dX5_teach_99 : decode cX5_teach 99 = .ok (.ireturn, 1) := by decide +kernel
theorem dX5_differ_0 : decode cX5_differ 0 = .ok (.aload_n 0, 1) := by decide +kernel
theorem dX5_differ_1 : decode cX5_differ 1 = .ok (.iconst 0, 1) := by decide +kernel
theorem dX5_differ_2 : decode cX5_differ 2 = .ok (.putfield 68, 3) := by decide +kernel
theorem dX5_differ_5 : decode cX5_differ 5 = .ok (.aload_n 0, 1) := by decide +kernel
theorem dX5_differ_6 : decode cX5_differ 6 = .ok (.iload_n 1, 1) := by decide +kernel
theorem dX5_differ_7 : decode cX5_differ 7 = .ok (.invokevirtual 151, 3) := by decide +kernel
theorem dX5_differ_10 : decode cX5_differ 10 = .ok (.ifCond .ne 11, 3) := by decide +kernel
theorem dX5_differ_13 : decode cX5_differ 13 = .ok (.aload_n 0, 1) := by decide +kernel
theorem dX5_differ_14 : decode cX5_differ 14 = .ok (.iload_n 2, 1) := by decide +kernel
theorem dX5_differ_15 : decode cX5_differ 15 = .ok (.invokevirtual 151, 3) := by decide +kernel
theorem dX5_differ_18 : decode cX5_differ 18 = .ok (.ifCond .eq 5, 3) := by decide +kernel
theorem dX5_differ_21 : decode cX5_differ 21 = .ok (.iconst (-1), 1) := by decide +kernel
theorem dX5_differ_22 : decode cX5_differ 22 = .ok (.ireturn, 1) := by decide +kernel
theorem dX5_differ_23 : decode cX5_differ 23 = .ok (.aload_n 0, 1) := by decide +kernel
theorem dX5_differ_24 : decode cX5_differ 24 = .ok (.aload_n 0, 1) := by decide +kernel
theorem dX5_differ_25 : decode cX5_differ 25 = .ok (.getfield 31, 3) := by decide +kernel
theorem dX5_differ_28 : decode cX5_differ 28 = .ok (.iload_n 1, 1) := by decide +kernel
theorem dX5_differ_29 : decode cX5_differ 29 = .ok (.invokevirtual 133, 3) := by decide +kernel
theorem dX5_differ_32 : decode cX5_differ 32 = .ok (.aload_n 0, 1) := by decide +kernel
theorem dX5_differ_33 : decode cX5_differ 33 = .ok (.aload_n 0, 1) := by decide +kernel
theorem dX5_differ_34 : decode cX5_differ 34 = .ok (.getfield 31, 3) := by decide +kernel
theorem dX5_differ_37 : decode cX5_differ 37 = .ok (.iload_n 2, 1) := by decide +kernel
theorem dX5_differ_38 : decode cX5_differ 38 = .ok (.invokevirtual 133, 3) := by decide +kernel
theorem dX5_differ_41 : decode cX5_differ 41 = .ok (.ixor, 1) := by decide +kernel
theorem dX5_differ_42 : decode cX5_differ 42 = .ok (.invokestatic 158, 3) := by decide +kernel
theorem dX5_differ_45 : decode cX5_differ 45 = .ok (.ireturn, 1) := by decide +kernel
theorem dX5_power_0 : decode cX5_power 0 = .ok (.iconst 1, 1) := by decide +kernel
theorem dX5_power_1 : decode cX5_power 1 = .ok (.istore_n 2, 1) := by decide +kernel
theorem dX5_power_2 : decode cX5_power 2 = .ok (.iconst 0, 1) := by decide +kernel
theorem dX5_power_3 : decode cX5_power 3 = .ok (.istore_n 3, 1) := by decide +kernel
theorem dX5_power_4 : decode cX5_power 4 = .ok (.iload_n 3, 1) := by decide +kernel
theorem dX5_power_5 : decode cX5_power 5 = .ok (.iload_n 1, 1) := by decide +kernel
theorem dX5_power_6 : decode cX5_power 6 = .ok (.if_icmp .ge 13, 3) := by decide +kernel
theorem dX5_power_9 : decode cX5_power 9 = .ok (.iload_n 2, 1) := by decide +kernel
theorem dX5_power_10 : decode cX5_power 10 = .ok (.iload_n 0, 1) := by decide +kernel
theorem dX5_power_11 : decode cX5_power 11 = .ok (.imul, 1) := by decide +kernel
theorem dX5_power_12 : decode cX5_power 12 = .ok (.istore_n 2, 1) := by decide +kernel
theorem dX5_power_13 : decode cX5_power 13 = .ok (.iinc 3 1, 3) := by decide +kernel
theorem dX5_power_16 : decode cX5_power 16 = .ok (.goto (-12), 3) := by decide +kernel
theorem dX5_power_19 : decode cX5_power 19 = .ok (.iload_n 2, 1) := by decide +kernel
theorem dX5_power_20 : decode cX5_power 20 = .ok (.ireturn, 1) := by decide +kernel
theorem dX5_does_0 : decode cX5_does 0 = .ok (.iload_n 1, 1) := by decide +kernel
theorem dX5_does_1 : decode cX5_does 1 = .ok (.bipush 10, 2) := by decide +kernel
theorem dX5_does_3 : decode cX5_does 3 = .ok (.idiv, 1) := by decide +kernel
theorem dX5_does_4 : decode cX5_does 4 = .ok (.istore_n 2, 1) := by decide +kernel
theorem dX5_does_5 : decode cX5_does 5 = .ok (.iload_n 1, 1) := by decide +kernel
theorem dX5_does_6 : decode cX5_does 6 = .ok (.bipush 10, 2) := by decide +kernel
theorem dX5_does_8 : decode cX5_does 8 = .ok (.irem, 1) := by decide +kernel
theorem dX5_does_9 : decode cX5_does 9 = .ok (.istore_n 3, 1) := by decide +kernel
theorem dX5_does_10 : decode cX5_does 10 = .ok (.iload_n 1, 1) := by decide +kernel
theorem dX5_does_11 : decode cX5_does 11 = .ok (.ifCond .ne 16, 3) := by decide +kernel
theorem dX5_does_14 : decode cX5_does 14 = .ok (.aload_n 0, 1) := by decide +kernel
theorem dX5_does_15 : decode cX5_does 15 = .ok (.getfield 34, 3) := by decide +kernel
theorem dX5_does_18 : decode cX5_does 18 = .ok (.bipush 15, 2) := by decide +kernel
theorem dX5_does_20 : decode cX5_does 20 = .ok (.dup2, 1) := by decide +kernel
theorem dX5_does_21 : decode cX5_does 21 = .ok (.iaload, 1) := by decide +kernel
theorem dX5_does_22 : decode cX5_does 22 = .ok (.iconst 1, 1) := by decide +kernel
theorem dX5_does_23 : decode cX5_does 23 = .ok (.iadd, 1) := by decide +kernel
theorem dX5_does_24 : decode cX5_does 24 = .ok (.iastore, 1) := by decide +kernel
theorem dX5_does_25 : decode cX5_does 25 = .ok (.iconst 1, 1) := by decide +kernel
theorem dX5_does_26 : decode cX5_does 26 = .ok (.ireturn, 1) := by decide +kernel
theorem dX5_does_27 : decode cX5_does 27 = .ok (.iload_n 2, 1) := by decide +kernel
theorem dX5_does_28 : decode cX5_does 28 = .ok (.i2l, 1) := by decide +kernel
theorem dX5_does_29 : decode cX5_does 29 = .ok (.lconst 1, 1) := by decide +kernel
theorem dX5_does_30 : decode cX5_does 30 = .ok (.ldc2_w 185, 3) := by decide +kernel
theorem dX5_does_33 : decode cX5_does 33 = .ok (.invokestatic 75, 3) := by decide +kernel
theorem dX5_does_36 : decode cX5_does 36 = .ok (.ifCond .eq 76, 3) := by decide +kernel
theorem dX5_does_39 : decode cX5_does 39 = .ok (.aload_n 0, 1) := by decide +kernel
theorem dX5_does_40 : decode cX5_does 40 = .ok (.iload_n 2, 1) := by decide +kernel
theorem dX5_does_41 : decode cX5_does 41 = .ok (.iconst 1, 1) := by decide +kernel
theorem dX5_does_42 : decode cX5_does 42 = .ok (.isub, 1) := by decide +kernel
theorem dX5_does_43 : decode cX5_does 43 = .ok (.invokevirtual 151, 3) := by decide +kernel
theorem dX5_does_46 : decode cX5_does 46 = .ok (.ifCond .ne 43, 3) := by decide +kernel
theorem dX5_does_49 : decode cX5_does 49 = .ok (.iload_n 3, 1) := by decide +kernel
theorem dX5_does_50 : decode cX5_does 50 = .ok (.iconst 2, 1) := by decide +kernel
theorem dX5_does_51 : decode cX5_does 51 = .ok (.if_icmp .ge 38, 3) := by decide +kernel
theorem dX5_does_54 : decode cX5_does 54 = .ok (.aload_n 0, 1) := by decide +kernel
theorem dX5_does_55 : decode cX5_does 55 = .ok (.getfield 34, 3) := by decide +kernel
theorem dX5_does_58 : decode cX5_does 58 = .ok (.iload_n 2, 1) := by decide +kernel
theorem dX5_does_59 : decode cX5_does 59 = .ok (.iconst 1, 1) := by decide +kernel
theorem dX5_does_60 : decode cX5_does 60 = .ok (.isub, 1) := by decide +kernel
theorem dX5_does_61 : decode cX5_does 61 = .ok (.iload_n 3, 1) := by decide +kernel
theorem dX5_does_62 : decode cX5_does 62 = .ok (.invokestatic 119, 3) := by decide +kernel
theorem dX5_does_65 : decode cX5_does 65 = .ok (.bipush (-9), 2) := by decide +kernel
theorem dX5_does_67 : decode cX5_does 67 = .ok (.if_icmp .eq 22, 3) := by decide +kernel
theorem dX5_does_70 : decode cX5_does 70 = .ok (.aload_n 0, 1) := by decide +kernel
theorem dX5_does_71 : decode cX5_does 71 = .ok (.aload_n 0, 1) := by decide +kernel
theorem dX5_does_72 : decode cX5_does 72 = .ok (.getfield 34, 3) := by decide +kernel
theorem dX5_does_75 : decode cX5_does 75 = .ok (.iload_n 2, 1) := by decide +kernel
theorem dX5_does_76 : decode cX5_does 76 = .ok (.iconst 1, 1) := by decide +kernel
theorem dX5_does_77 : decode cX5_does 77 = .ok (.isub, 1) := by decide +kernel
theorem dX5_does_78 : decode cX5_does 78 = .ok (.iload_n 3, 1) := by decide +kernel
theorem dX5_does_79 : decode cX5_does 79 = .ok (.invokevirtual 130, 3) := by decide +kernel
theorem dX5_does_82 : decode cX5_does 82 = .ok (.ifCond .ne 7, 3) := by decide +kernel
theorem dX5_does_85 : decode cX5_does 85 = .ok (.iconst 1, 1) := by decide +kernel
theorem dX5_does_86 : decode cX5_does 86 = .ok (.goto 4, 3) := by decide +kernel
theorem dX5_does_89 : decode cX5_does 89 = .ok (.iconst 0, 1) := by decide +kernel
theorem dX5_does_90 : decode cX5_does 90 = .ok (.istore 4, 2) := by decide +kernel
theorem dX5_does_92 : decode cX5_does 92 = .ok (.iload 4, 2) := by decide +kernel
theorem dX5_does_94 : decode cX5_does 94 = .ok (.ifCond .eq 15, 3) := by decide +kernel
theorem dX5_does_97 : decode cX5_does 97 = .ok (.aload_n 0, 1) := by decide +kernel
theorem dX5_does_98 : decode cX5_does 98 = .ok (.aload_n 0, 1) := by decide +kernel
theorem dX5_does_99 : decode cX5_does 99 = .ok (.getfield 34, 3) := by decide +kernel
theorem dX5_does_102 : decode cX5_does 102 = .ok (.iload_n 2, 1) := by decide +kernel
theorem dX5_does_103 : decode cX5_does 103 = .ok (.iconst 1, 1) := by decide +kernel
theorem dX5_does_104 : decode cX5_does 104 = .ok (.isub, 1) := by decide +kernel
theorem dX5_does_105 : decode cX5_does 105 = .ok (.iload_n 3, 1) := by decide +kernel
theorem dX5_does_106 : decode cX5_does 106 = .ok (.invokevirtual 171, 3) := by decide +kernel
theorem dX5_does_109 : decode cX5_does 109 = .ok (.iload 4, 2) := by decide +kernel
theorem dX5_does_111 : decode cX5_does 111 = .ok (.ireturn, 1) := by decide +kernel
theorem dX5_does_112 : decode cX5_does 112 = .ok (.aload_n 0, 1) := by decide +kernel
theorem dX5_does_113 : decode cX5_does 113 = .ok (.iload_n 3, 1) := by decide +kernel
theorem dX5_does_114 : decode cX5_does 114 = .ok (.invokevirtual 151, 3) := by decide +kernel
theorem dX5_does_117 : decode cX5_does 117 = .ok (.ifCond .eq 5, 3) := by decide +kernel
theorem dX5_does_120 : decode cX5_does 120 = .ok (.iconst 0, 1) := by decide +kernel
theorem dX5_does_121 : decode cX5_does 121 = .ok (.ireturn, 1) := by decide +kernel
theorem dX5_does_122 : decode cX5_does 122 = .ok (.iload_n 2, 1) := by decide +kernel
theorem dX5_does_123 : decode cX5_does 123 = .ok (.bipush 6, 2) := by decide +kernel
theorem dX5_does_125 : decode cX5_does 125 = .ok (.if_icmp .ne 26, 3) := by decide +kernel
theorem dX5_does_128 : decode cX5_does 128 = .ok (.aload_n 0, 1) := by decide +kernel
theorem dX5_does_129 : decode cX5_does 129 = .ok (.getfield 34, 3) := by decide +kernel
theorem dX5_does_132 : decode cX5_does 132 = .ok (.iconst 5, 1) := by decide +kernel
theorem dX5_does_133 : decode cX5_does 133 = .ok (.iload_n 3, 1) := by decide +kernel
theorem dX5_does_134 : decode cX5_does 134 = .ok (.iadd, 1) := by decide +kernel
theorem dX5_does_135 : decode cX5_does 135 = .ok (.iaload, 1) := by decide +kernel
theorem dX5_does_136 : decode cX5_does 136 = .ok (.iconst 3, 1) := by decide +kernel
theorem dX5_does_137 : decode cX5_does 137 = .ok (.if_icmp .eq 14, 3) := by decide +kernel
theorem dX5_does_140 : decode cX5_does 140 = .ok (.aload_n 0, 1) := by decide +kernel
theorem dX5_does_141 : decode cX5_does 141 = .ok (.getfield 34, 3) := by decide +kernel
theorem dX5_does_144 : decode cX5_does 144 = .ok (.iconst 5, 1) := by decide +kernel
theorem dX5_does_145 : decode cX5_does 145 = .ok (.iload_n 3, 1) := by decide +kernel
theorem dX5_does_146 : decode cX5_does 146 = .ok (.iadd, 1) := by decide +kernel
theorem dX5_does_147 : decode cX5_does 147 = .ok (.iconst 3, 1) := by decide +kernel
theorem dX5_does_148 : decode cX5_does 148 = .ok (.iastore, 1) := by decide +kernel
theorem dX5_does_149 : decode cX5_does 149 = .ok (.iconst 1, 1) := by decide +kernel
theorem dX5_does_150 : decode cX5_does 150 = .ok (.ireturn, 1) := by decide +kernel
theorem dX5_does_151 : decode cX5_does 151 = .ok (.iload_n 2, 1) := by decide +kernel
theorem dX5_does_152 : decode cX5_does 152 = .ok (.bipush 7, 2) := by decide +kernel
theorem dX5_does_154 : decode cX5_does 154 = .ok (.if_icmp .ne 19, 3) := by decide +kernel
theorem dX5_does_157 : decode cX5_does 157 = .ok (.aload_n 0, 1) := by decide +kernel
theorem dX5_does_158 : decode cX5_does 158 = .ok (.getfield 34, 3) := by decide +kernel
theorem dX5_does_161 : decode cX5_does 161 = .ok (.bipush 10, 2) := by decide +kernel
theorem dX5_does_163 : decode cX5_does 163 = .ok (.iload_n 3, 1) := by decide +kernel
theorem dX5_does_164 : decode cX5_does 164 = .ok (.iadd, 1) := by decide +kernel
theorem dX5_does_165 : decode cX5_does 165 = .ok (.iaload, 1) := by decide +kernel
theorem dX5_does_166 : decode cX5_does 166 = .ok (.ifCond .eq 7, 3) := by decide +kernel
theorem dX5_does_169 : decode cX5_does 169 = .ok (.iconst 1, 1) := by decide +kernel
theorem dX5_does_170 : decode cX5_does 170 = .ok (.goto 4, 3) := by decide +kernel
theorem dX5_does_173 : decode cX5_does 173 = .ok (.iconst 0, 1) := by decide +kernel
theorem dX5_does_174 : decode cX5_does 174 = .ok (.istore 4, 2) := by decide +kernel
theorem dX5_does_176 : decode cX5_does 176 = .ok (.aload_n 0, 1) := by decide +kernel
theorem dX5_does_177 : decode cX5_does 177 = .ok (.getfield 34, 3) := by decide +kernel
theorem dX5_does_180 : decode cX5_does 180 = .ok (.bipush 10, 2) := by decide +kernel
theorem dX5_does_182 : decode cX5_does 182 = .ok (.iload_n 3, 1) := by decide +kernel
theorem dX5_does_183 : decode cX5_does 183 = .ok (.iadd, 1) := by decide +kernel
theorem dX5_does_184 : decode cX5_does 184 = .ok (.iload 4, 2) := by decide +kernel
theorem dX5_does_186 : decode cX5_does 186 = .ok (.ifCond .eq 7, 3) := by decide +kernel
theorem dX5_does_189 : decode cX5_does 189 = .ok (.iconst 0, 1) := by decide +kernel
theorem dX5_does_190 : decode cX5_does 190 = .ok (.goto 12, 3) := by decide +kernel
theorem dX5_does_193 : decode cX5_does 193 = .ok (.aload_n 0, 1) := by decide +kernel
theorem dX5_does_194 : decode cX5_does 194 = .ok (.getfield 34, 3) := by decide +kernel
theorem dX5_does_197 : decode cX5_does 197 = .ok (.bipush 10, 2) := by decide +kernel
theorem dX5_does_199 : decode cX5_does 199 = .ok (.iload_n 3, 1) := by decide +kernel
theorem dX5_does_200 : decode cX5_does 200 = .ok (.iadd, 1) := by decide +kernel
theorem dX5_does_201 : decode cX5_does 201 = .ok (.iaload, 1) := by decide +kernel
theorem dX5_does_202 : decode cX5_does 202 = .ok (.iastore, 1) := by decide +kernel
theorem dX5_does_203 : decode cX5_does 203 = .ok (.iload 4, 2) := by decide +kernel
theorem dX5_does_205 : decode cX5_does 205 = .ok (.ireturn, 1) := by decide +kernel
theorem dX5_judge_0 : decode cX5_judge 0 = .ok (.aload_n 0, 1) := by decide +kernel
theorem dX5_judge_1 : decode cX5_judge 1 = .ok (.iconst 0, 1) := by decide +kernel
theorem dX5_judge_2 : decode cX5_judge 2 = .ok (.putfield 68, 3) := by decide +kernel
theorem dX5_judge_5 : decode cX5_judge 5 = .ok (.iload_n 1, 1) := by decide +kernel
theorem dX5_judge_6 : decode cX5_judge 6 = .ok (.i2l, 1) := by decide +kernel
theorem dX5_judge_7 : decode cX5_judge 7 = .ok (.lconst 1, 1) := by decide +kernel
theorem dX5_judge_8 : decode cX5_judge 8 = .ok (.ldc2_w 187, 3) := by decide +kernel
theorem dX5_judge_11 : decode cX5_judge 11 = .ok (.invokestatic 75, 3) := by decide +kernel
theorem dX5_judge_14 : decode cX5_judge 14 = .ok (.ifCond .eq 21, 3) := by decide +kernel
theorem dX5_judge_17 : decode cX5_judge 17 = .ok (.iload_n 2, 1) := by decide +kernel
theorem dX5_judge_18 : decode cX5_judge 18 = .ok (.i2l, 1) := by decide +kernel
theorem dX5_judge_19 : decode cX5_judge 19 = .ok (.lconst 0, 1) := by decide +kernel
theorem dX5_judge_20 : decode cX5_judge 20 = .ok (.bipush 100, 2) := by decide +kernel
theorem dX5_judge_22 : decode cX5_judge 22 = .ok (.iload_n 1, 1) := by decide +kernel
theorem dX5_judge_23 : decode cX5_judge 23 = .ok (.invokestatic 189, 3) := by decide +kernel
theorem dX5_judge_26 : decode cX5_judge 26 = .ok (.iconst 1, 1) := by decide +kernel
theorem dX5_judge_27 : decode cX5_judge 27 = .ok (.isub, 1) := by decide +kernel
theorem dX5_judge_28 : decode cX5_judge 28 = .ok (.i2l, 1) := by decide +kernel
theorem dX5_judge_29 : decode cX5_judge 29 = .ok (.invokestatic 75, 3) := by decide +kernel
theorem dX5_judge_32 : decode cX5_judge 32 = .ok (.ifCond .ne 6, 3) := by decide +kernel
theorem dX5_judge_35 : decode cX5_judge 35 = .ok (.bipush (-2), 2) := by decide +kernel
theorem dX5_judge_37 : decode cX5_judge 37 = .ok (.ireturn, 1) := by decide +kernel
theorem dX5_judge_38 : decode cX5_judge 38 = .ok (.aload_n 0, 1) := by decide +kernel
theorem dX5_judge_39 : decode cX5_judge 39 = .ok (.invokevirtual 175, 3) := by decide +kernel
theorem dX5_judge_42 : decode cX5_judge 42 = .ok (.iconst 0, 1) := by decide +kernel
theorem dX5_judge_43 : decode cX5_judge 43 = .ok (.istore_n 3, 1) := by decide +kernel
theorem dX5_judge_44 : decode cX5_judge 44 = .ok (.iload_n 3, 1) := by decide +kernel
theorem dX5_judge_45 : decode cX5_judge 45 = .ok (.iload_n 1, 1) := by decide +kernel
theorem dX5_judge_46 : decode cX5_judge 46 = .ok (.if_icmp .ge 33, 3) := by decide +kernel
theorem dX5_judge_49 : decode cX5_judge 49 = .ok (.aload_n 0, 1) := by decide +kernel
theorem dX5_judge_50 : decode cX5_judge 50 = .ok (.iload_n 2, 1) := by decide +kernel
theorem dX5_judge_51 : decode cX5_judge 51 = .ok (.bipush 100, 2) := by decide +kernel
theorem dX5_judge_53 : decode cX5_judge 53 = .ok (.iload_n 1, 1) := by decide +kernel
theorem dX5_judge_54 : decode cX5_judge 54 = .ok (.iconst 1, 1) := by decide +kernel
theorem dX5_judge_55 : decode cX5_judge 55 = .ok (.isub, 1) := by decide +kernel
theorem dX5_judge_56 : decode cX5_judge 56 = .ok (.iload_n 3, 1) := by decide +kernel
theorem dX5_judge_57 : decode cX5_judge 57 = .ok (.isub, 1) := by decide +kernel
theorem dX5_judge_58 : decode cX5_judge 58 = .ok (.invokestatic 189, 3) := by decide +kernel
theorem dX5_judge_61 : decode cX5_judge 61 = .ok (.idiv, 1) := by decide +kernel
theorem dX5_judge_62 : decode cX5_judge 62 = .ok (.bipush 100, 2) := by decide +kernel
theorem dX5_judge_64 : decode cX5_judge 64 = .ok (.irem, 1) := by decide +kernel
theorem dX5_judge_65 : decode cX5_judge 65 = .ok (.invokevirtual 192, 3) := by decide +kernel
theorem dX5_judge_68 : decode cX5_judge 68 = .ok (.ifCond .ne 5, 3) := by decide +kernel
theorem dX5_judge_71 : decode cX5_judge 71 = .ok (.iload_n 3, 1) := by decide +kernel
theorem dX5_judge_72 : decode cX5_judge 72 = .ok (.ireturn, 1) := by decide +kernel
theorem dX5_judge_73 : decode cX5_judge 73 = .ok (.iinc 3 1, 3) := by decide +kernel
theorem dX5_judge_76 : decode cX5_judge 76 = .ok (.goto (-32), 3) := by decide +kernel
theorem dX5_judge_79 : decode cX5_judge 79 = .ok (.bipush (-9), 2) := by decide +kernel
theorem dX5_judge_81 : decode cX5_judge 81 = .ok (.ireturn, 1) := by decide +kernel
theorem dX5_ways_0 : decode cX5_ways 0 = .ok (.iconst 1, 1) := by decide +kernel
theorem dX5_ways_1 : decode cX5_ways 1 = .ok (.istore_n 1, 1) := by decide +kernel
theorem dX5_ways_2 : decode cX5_ways 2 = .ok (.iconst 2, 1) := by decide +kernel
theorem dX5_ways_3 : decode cX5_ways 3 = .ok (.istore_n 2, 1) := by decide +kernel
theorem dX5_ways_4 : decode cX5_ways 4 = .ok (.iload_n 2, 1) := by decide +kernel
theorem dX5_ways_5 : decode cX5_ways 5 = .ok (.iload_n 0, 1) := by decide +kernel
theorem dX5_ways_6 : decode cX5_ways 6 = .ok (.if_icmp .gt 13, 3) := by decide +kernel
theorem dX5_ways_9 : decode cX5_ways 9 = .ok (.iload_n 1, 1) := by decide +kernel
theorem dX5_ways_10 : decode cX5_ways 10 = .ok (.iload_n 2, 1) := by decide +kernel
theorem dX5_ways_11 : decode cX5_ways 11 = .ok (.imul, 1) := by decide +kernel
theorem dX5_ways_12 : decode cX5_ways 12 = .ok (.istore_n 1, 1) := by decide +kernel
theorem dX5_ways_13 : decode cX5_ways 13 = .ok (.iinc 2 1, 3) := by decide +kernel
theorem dX5_ways_16 : decode cX5_ways 16 = .ok (.goto (-12), 3) := by decide +kernel
theorem dX5_ways_19 : decode cX5_ways 19 = .ok (.iload_n 1, 1) := by decide +kernel
theorem dX5_ways_20 : decode cX5_ways 20 = .ok (.ireturn, 1) := by decide +kernel
theorem dX5_divisor_0 : decode cX5_divisor 0 = .ok (.iload_n 0, 1) := by decide +kernel
theorem dX5_divisor_1 : decode cX5_divisor 1 = .ok (.ifCond .ge 8, 3) := by decide +kernel
theorem dX5_divisor_4 : decode cX5_divisor 4 = .ok (.iload_n 0, 1) := by decide +kernel
theorem dX5_divisor_5 : decode cX5_divisor 5 = .ok (.ineg, 1) := by decide +kernel
theorem dX5_divisor_6 : decode cX5_divisor 6 = .ok (.goto 4, 3) := by decide +kernel
theorem dX5_divisor_9 : decode cX5_divisor 9 = .ok (.iload_n 0, 1) := by decide +kernel
theorem dX5_divisor_10 : decode cX5_divisor 10 = .ok (.istore_n 2, 1) := by decide +kernel
theorem dX5_divisor_11 : decode cX5_divisor 11 = .ok (.iload_n 1, 1) := by decide +kernel
theorem dX5_divisor_12 : decode cX5_divisor 12 = .ok (.istore_n 3, 1) := by decide +kernel
theorem dX5_divisor_13 : decode cX5_divisor 13 = .ok (.iload_n 3, 1) := by decide +kernel
theorem dX5_divisor_14 : decode cX5_divisor 14 = .ok (.ifCond .eq 16, 3) := by decide +kernel
theorem dX5_divisor_17 : decode cX5_divisor 17 = .ok (.iload_n 2, 1) := by decide +kernel
theorem dX5_divisor_18 : decode cX5_divisor 18 = .ok (.iload_n 3, 1) := by decide +kernel
theorem dX5_divisor_19 : decode cX5_divisor 19 = .ok (.irem, 1) := by decide +kernel
theorem dX5_divisor_20 : decode cX5_divisor 20 = .ok (.istore 4, 2) := by decide +kernel
theorem dX5_divisor_22 : decode cX5_divisor 22 = .ok (.iload_n 3, 1) := by decide +kernel
theorem dX5_divisor_23 : decode cX5_divisor 23 = .ok (.istore_n 2, 1) := by decide +kernel
theorem dX5_divisor_24 : decode cX5_divisor 24 = .ok (.iload 4, 2) := by decide +kernel
theorem dX5_divisor_26 : decode cX5_divisor 26 = .ok (.istore_n 3, 1) := by decide +kernel
theorem dX5_divisor_27 : decode cX5_divisor 27 = .ok (.goto (-14), 3) := by decide +kernel
theorem dX5_divisor_30 : decode cX5_divisor 30 = .ok (.iload_n 2, 1) := by decide +kernel
theorem dX5_divisor_31 : decode cX5_divisor 31 = .ok (.ireturn, 1) := by decide +kernel
theorem dX5_fraction_0 : decode cX5_fraction 0 = .ok (.iload_n 0, 1) := by decide +kernel
theorem dX5_fraction_1 : decode cX5_fraction 1 = .ok (.iload_n 1, 1) := by decide +kernel
theorem dX5_fraction_2 : decode cX5_fraction 2 = .ok (.invokestatic 195, 3) := by decide +kernel
theorem dX5_fraction_5 : decode cX5_fraction 5 = .ok (.istore_n 3, 1) := by decide +kernel
theorem dX5_fraction_6 : decode cX5_fraction 6 = .ok (.iload_n 2, 1) := by decide +kernel
theorem dX5_fraction_7 : decode cX5_fraction 7 = .ok (.ifCond .eq 9, 3) := by decide +kernel
theorem dX5_fraction_10 : decode cX5_fraction 10 = .ok (.iload_n 0, 1) := by decide +kernel
theorem dX5_fraction_11 : decode cX5_fraction 11 = .ok (.iload_n 3, 1) := by decide +kernel
theorem dX5_fraction_12 : decode cX5_fraction 12 = .ok (.idiv, 1) := by decide +kernel
theorem dX5_fraction_13 : decode cX5_fraction 13 = .ok (.goto 6, 3) := by decide +kernel
theorem dX5_fraction_16 : decode cX5_fraction 16 = .ok (.iload_n 1, 1) := by decide +kernel
theorem dX5_fraction_17 : decode cX5_fraction 17 = .ok (.iload_n 3, 1) := by decide +kernel
theorem dX5_fraction_18 : decode cX5_fraction 18 = .ok (.idiv, 1) := by decide +kernel
theorem dX5_fraction_19 : decode cX5_fraction 19 = .ok (.ireturn, 1) := by decide +kernel
theorem dX5_barredBy_0 : decode cX5_barredBy 0 = .ok (.iconst 0, 1) := by decide +kernel
theorem dX5_barredBy_1 : decode cX5_barredBy 1 = .ok (.istore_n 2, 1) := by decide +kernel
theorem dX5_barredBy_2 : decode cX5_barredBy 2 = .ok (.iconst 0, 1) := by decide +kernel
theorem dX5_barredBy_3 : decode cX5_barredBy 3 = .ok (.istore_n 3, 1) := by decide +kernel
theorem dX5_barredBy_4 : decode cX5_barredBy 4 = .ok (.iload_n 3, 1) := by decide +kernel
theorem dX5_barredBy_5 : decode cX5_barredBy 5 = .ok (.aload_n 0, 1) := by decide +kernel
theorem dX5_barredBy_6 : decode cX5_barredBy 6 = .ok (.getfield 72, 3) := by decide +kernel
theorem dX5_barredBy_9 : decode cX5_barredBy 9 = .ok (.if_icmp .ge 63, 3) := by decide +kernel
theorem dX5_barredBy_12 : decode cX5_barredBy 12 = .ok (.iconst 0, 1) := by decide +kernel
theorem dX5_barredBy_13 : decode cX5_barredBy 13 = .ok (.istore 4, 2) := by decide +kernel
theorem dX5_barredBy_15 : decode cX5_barredBy 15 = .ok (.iload 4, 2) := by decide +kernel
theorem dX5_barredBy_17 : decode cX5_barredBy 17 = .ok (.iconst 2, 1) := by decide +kernel
theorem dX5_barredBy_18 : decode cX5_barredBy 18 = .ok (.if_icmp .ge 48, 3) := by decide +kernel
theorem dX5_barredBy_21 : decode cX5_barredBy 21 = .ok (.iload_n 2, 1) := by decide +kernel
theorem dX5_barredBy_22 : decode cX5_barredBy 22 = .ok (.aload_n 0, 1) := by decide +kernel
theorem dX5_barredBy_23 : decode cX5_barredBy 23 = .ok (.getfield 31, 3) := by decide +kernel
theorem dX5_barredBy_26 : decode cX5_barredBy 26 = .ok (.iload_n 3, 1) := by decide +kernel
theorem dX5_barredBy_27 : decode cX5_barredBy 27 = .ok (.iload 4, 2) := by decide +kernel
theorem dX5_barredBy_29 : decode cX5_barredBy 29 = .ok (.invokestatic 119, 3) := by decide +kernel
theorem dX5_barredBy_32 : decode cX5_barredBy 32 = .ok (.bipush (-9), 2) := by decide +kernel
theorem dX5_barredBy_34 : decode cX5_barredBy 34 = .ok (.if_icmp .eq 23, 3) := by decide +kernel
theorem dX5_barredBy_37 : decode cX5_barredBy 37 = .ok (.aload_n 0, 1) := by decide +kernel
theorem dX5_barredBy_38 : decode cX5_barredBy 38 = .ok (.aload_n 0, 1) := by decide +kernel
theorem dX5_barredBy_39 : decode cX5_barredBy 39 = .ok (.getfield 31, 3) := by decide +kernel
theorem dX5_barredBy_42 : decode cX5_barredBy 42 = .ok (.iload_n 3, 1) := by decide +kernel
theorem dX5_barredBy_43 : decode cX5_barredBy 43 = .ok (.iload 4, 2) := by decide +kernel
theorem dX5_barredBy_45 : decode cX5_barredBy 45 = .ok (.invokevirtual 130, 3) := by decide +kernel
theorem dX5_barredBy_48 : decode cX5_barredBy 48 = .ok (.iload_n 1, 1) := by decide +kernel
theorem dX5_barredBy_49 : decode cX5_barredBy 49 = .ok (.iand, 1) := by decide +kernel
theorem dX5_barredBy_50 : decode cX5_barredBy 50 = .ok (.ifCond .eq 7, 3) := by decide +kernel
theorem dX5_barredBy_53 : decode cX5_barredBy 53 = .ok (.iconst 1, 1) := by decide +kernel
theorem dX5_barredBy_54 : decode cX5_barredBy 54 = .ok (.goto 4, 3) := by decide +kernel
theorem dX5_barredBy_57 : decode cX5_barredBy 57 = .ok (.iconst 0, 1) := by decide +kernel
theorem dX5_barredBy_58 : decode cX5_barredBy 58 = .ok (.iadd, 1) := by decide +kernel
theorem dX5_barredBy_59 : decode cX5_barredBy 59 = .ok (.istore_n 2, 1) := by decide +kernel
theorem dX5_barredBy_60 : decode cX5_barredBy 60 = .ok (.iinc 4 1, 3) := by decide +kernel
theorem dX5_barredBy_63 : decode cX5_barredBy 63 = .ok (.goto (-48), 3) := by decide +kernel
theorem dX5_barredBy_66 : decode cX5_barredBy 66 = .ok (.iinc 3 1, 3) := by decide +kernel
theorem dX5_barredBy_69 : decode cX5_barredBy 69 = .ok (.goto (-65), 3) := by decide +kernel
theorem dX5_barredBy_72 : decode cX5_barredBy 72 = .ok (.iload_n 2, 1) := by decide +kernel
theorem dX5_barredBy_73 : decode cX5_barredBy 73 = .ok (.ireturn, 1) := by decide +kernel
theorem dX5_share_0 : decode cX5_share 0 = .ok (.aload_n 0, 1) := by decide +kernel
theorem dX5_share_1 : decode cX5_share 1 = .ok (.iconst 0, 1) := by decide +kernel
theorem dX5_share_2 : decode cX5_share 2 = .ok (.putfield 68, 3) := by decide +kernel
theorem dX5_share_5 : decode cX5_share 5 = .ok (.aload_n 0, 1) := by decide +kernel
theorem dX5_share_6 : decode cX5_share 6 = .ok (.iload_n 1, 1) := by decide +kernel
theorem dX5_share_7 : decode cX5_share 7 = .ok (.invokevirtual 144, 3) := by decide +kernel
theorem dX5_share_10 : decode cX5_share 10 = .ok (.ifCond .eq 5, 3) := by decide +kernel
theorem dX5_share_13 : decode cX5_share 13 = .ok (.iconst (-1), 1) := by decide +kernel
theorem dX5_share_14 : decode cX5_share 14 = .ok (.ireturn, 1) := by decide +kernel
theorem dX5_share_15 : decode cX5_share 15 = .ok (.iconst 0, 1) := by decide +kernel
theorem dX5_share_16 : decode cX5_share 16 = .ok (.istore_n 3, 1) := by decide +kernel
theorem dX5_share_17 : decode cX5_share 17 = .ok (.iload_n 3, 1) := by decide +kernel
theorem dX5_share_18 : decode cX5_share 18 = .ok (.iconst 1, 1) := by decide +kernel
theorem dX5_share_19 : decode cX5_share 19 = .ok (.aload_n 0, 1) := by decide +kernel
theorem dX5_share_20 : decode cX5_share 20 = .ok (.getfield 79, 3) := by decide +kernel
theorem dX5_share_23 : decode cX5_share 23 = .ok (.ishl, 1) := by decide +kernel
theorem dX5_share_24 : decode cX5_share 24 = .ok (.if_icmp .ge 20, 3) := by decide +kernel
theorem dX5_share_27 : decode cX5_share 27 = .ok (.aload_n 0, 1) := by decide +kernel
theorem dX5_share_28 : decode cX5_share 28 = .ok (.getfield 65, 3) := by decide +kernel
theorem dX5_share_31 : decode cX5_share 31 = .ok (.iload_n 3, 1) := by decide +kernel
theorem dX5_share_32 : decode cX5_share 32 = .ok (.aload_n 0, 1) := by decide +kernel
theorem dX5_share_33 : decode cX5_share 33 = .ok (.iload_n 3, 1) := by decide +kernel
theorem dX5_share_34 : decode cX5_share 34 = .ok (.invokevirtual 198, 3) := by decide +kernel
theorem dX5_share_37 : decode cX5_share 37 = .ok (.iastore, 1) := by decide +kernel
theorem dX5_share_38 : decode cX5_share 38 = .ok (.iinc 3 1, 3) := by decide +kernel
theorem dX5_share_41 : decode cX5_share 41 = .ok (.goto (-24), 3) := by decide +kernel
theorem dX5_share_44 : decode cX5_share 44 = .ok (.iconst 0, 1) := by decide +kernel
theorem dX5_share_45 : decode cX5_share 45 = .ok (.istore_n 3, 1) := by decide +kernel
theorem dX5_share_46 : decode cX5_share 46 = .ok (.iconst 0, 1) := by decide +kernel
theorem dX5_share_47 : decode cX5_share 47 = .ok (.istore 4, 2) := by decide +kernel
theorem dX5_share_49 : decode cX5_share 49 = .ok (.iload 4, 2) := by decide +kernel
theorem dX5_share_51 : decode cX5_share 51 = .ok (.iconst 1, 1) := by decide +kernel
theorem dX5_share_52 : decode cX5_share 52 = .ok (.aload_n 0, 1) := by decide +kernel
theorem dX5_share_53 : decode cX5_share 53 = .ok (.getfield 79, 3) := by decide +kernel
theorem dX5_share_56 : decode cX5_share 56 = .ok (.ishl, 1) := by decide +kernel
theorem dX5_share_57 : decode cX5_share 57 = .ok (.if_icmp .ge 66, 3) := by decide +kernel
theorem dX5_share_60 : decode cX5_share 60 = .ok (.iload 4, 2) := by decide +kernel
theorem dX5_share_62 : decode cX5_share 62 = .ok (.iload_n 1, 1) := by decide +kernel
theorem dX5_share_63 : decode cX5_share 63 = .ok (.invokestatic 140, 3) := by decide +kernel
theorem dX5_share_66 : decode cX5_share 66 = .ok (.ifCond .ne 51, 3) := by decide +kernel
theorem dX5_share_69 : decode cX5_share 69 = .ok (.iload 4, 2) := by decide +kernel
theorem dX5_share_71 : decode cX5_share 71 = .ok (.invokestatic 161, 3) := by decide +kernel
theorem dX5_share_74 : decode cX5_share 74 = .ok (.istore 5, 2) := by decide +kernel
theorem dX5_share_76 : decode cX5_share 76 = .ok (.iload_n 3, 1) := by decide +kernel
theorem dX5_share_77 : decode cX5_share 77 = .ok (.iload 5, 2) := by decide +kernel
theorem dX5_share_79 : decode cX5_share 79 = .ok (.invokestatic 201, 3) := by decide +kernel
theorem dX5_share_82 : decode cX5_share 82 = .ok (.aload_n 0, 1) := by decide +kernel
theorem dX5_share_83 : decode cX5_share 83 = .ok (.getfield 79, 3) := by decide +kernel
theorem dX5_share_86 : decode cX5_share 86 = .ok (.iconst 1, 1) := by decide +kernel
theorem dX5_share_87 : decode cX5_share 87 = .ok (.isub, 1) := by decide +kernel
theorem dX5_share_88 : decode cX5_share 88 = .ok (.iload 5, 2) := by decide +kernel
theorem dX5_share_90 : decode cX5_share 90 = .ok (.isub, 1) := by decide +kernel
theorem dX5_share_91 : decode cX5_share 91 = .ok (.invokestatic 201, 3) := by decide +kernel
theorem dX5_share_94 : decode cX5_share 94 = .ok (.imul, 1) := by decide +kernel
theorem dX5_share_95 : decode cX5_share 95 = .ok (.aload_n 0, 1) := by decide +kernel
theorem dX5_share_96 : decode cX5_share 96 = .ok (.getfield 65, 3) := by decide +kernel
theorem dX5_share_99 : decode cX5_share 99 = .ok (.iload 4, 2) := by decide +kernel
theorem dX5_share_101 : decode cX5_share 101 = .ok (.iconst 1, 1) := by decide +kernel
theorem dX5_share_102 : decode cX5_share 102 = .ok (.iload_n 1, 1) := by decide +kernel
theorem dX5_share_103 : decode cX5_share 103 = .ok (.ishl, 1) := by decide +kernel
theorem dX5_share_104 : decode cX5_share 104 = .ok (.ior, 1) := by decide +kernel
theorem dX5_share_105 : decode cX5_share 105 = .ok (.iaload, 1) := by decide +kernel
theorem dX5_share_106 : decode cX5_share 106 = .ok (.aload_n 0, 1) := by decide +kernel
theorem dX5_share_107 : decode cX5_share 107 = .ok (.getfield 65, 3) := by decide +kernel
theorem dX5_share_110 : decode cX5_share 110 = .ok (.iload 4, 2) := by decide +kernel
theorem dX5_share_112 : decode cX5_share 112 = .ok (.iaload, 1) := by decide +kernel
theorem dX5_share_113 : decode cX5_share 113 = .ok (.isub, 1) := by decide +kernel
theorem dX5_share_114 : decode cX5_share 114 = .ok (.imul, 1) := by decide +kernel
theorem dX5_share_115 : decode cX5_share 115 = .ok (.iadd, 1) := by decide +kernel
theorem dX5_share_116 : decode cX5_share 116 = .ok (.istore_n 3, 1) := by decide +kernel
theorem dX5_share_117 : decode cX5_share 117 = .ok (.iinc 4 1, 3) := by decide +kernel
theorem dX5_share_120 : decode cX5_share 120 = .ok (.goto (-71), 3) := by decide +kernel
theorem dX5_share_123 : decode cX5_share 123 = .ok (.iload_n 3, 1) := by decide +kernel
theorem dX5_share_124 : decode cX5_share 124 = .ok (.aload_n 0, 1) := by decide +kernel
theorem dX5_share_125 : decode cX5_share 125 = .ok (.getfield 79, 3) := by decide +kernel
theorem dX5_share_128 : decode cX5_share 128 = .ok (.invokestatic 201, 3) := by decide +kernel
theorem dX5_share_131 : decode cX5_share 131 = .ok (.iload_n 2, 1) := by decide +kernel
theorem dX5_share_132 : decode cX5_share 132 = .ok (.invokestatic 204, 3) := by decide +kernel
theorem dX5_share_135 : decode cX5_share 135 = .ok (.ireturn, 1) := by decide +kernel
theorem dX5_see_0 : decode cX5_see 0 = .ok (.aload_n 0, 1) := by decide +kernel
theorem dX5_see_1 : decode cX5_see 1 = .ok (.iconst 0, 1) := by decide +kernel
theorem dX5_see_2 : decode cX5_see 2 = .ok (.putfield 68, 3) := by decide +kernel
theorem dX5_see_5 : decode cX5_see 5 = .ok (.iload_n 1, 1) := by decide +kernel
theorem dX5_see_6 : decode cX5_see 6 = .ok (.i2l, 1) := by decide +kernel
theorem dX5_see_7 : decode cX5_see 7 = .ok (.lconst 0, 1) := by decide +kernel
theorem dX5_see_8 : decode cX5_see 8 = .ok (.ldc2_w 117, 3) := by decide +kernel
theorem dX5_see_11 : decode cX5_see 11 = .ok (.invokestatic 75, 3) := by decide +kernel
theorem dX5_see_14 : decode cX5_see 14 = .ok (.ifCond .ne 5, 3) := by decide +kernel
theorem dX5_see_17 : decode cX5_see 17 = .ok (.iconst (-1), 1) := by decide +kernel
theorem dX5_see_18 : decode cX5_see 18 = .ok (.ireturn, 1) := by decide +kernel
theorem dX5_see_19 : decode cX5_see 19 = .ok (.iload_n 2, 1) := by decide +kernel
theorem dX5_see_20 : decode cX5_see 20 = .ok (.i2l, 1) := by decide +kernel
theorem dX5_see_21 : decode cX5_see 21 = .ok (.lconst 0, 1) := by decide +kernel
theorem dX5_see_22 : decode cX5_see 22 = .ok (.ldc2_w 208, 3) := by decide +kernel
theorem dX5_see_25 : decode cX5_see 25 = .ok (.invokestatic 75, 3) := by decide +kernel
theorem dX5_see_28 : decode cX5_see 28 = .ok (.ifCond .eq 37, 3) := by decide +kernel
theorem dX5_see_31 : decode cX5_see 31 = .ok (.iload_n 3, 1) := by decide +kernel
theorem dX5_see_32 : decode cX5_see 32 = .ok (.i2l, 1) := by decide +kernel
theorem dX5_see_33 : decode cX5_see 33 = .ok (.lconst 0, 1) := by decide +kernel
theorem dX5_see_34 : decode cX5_see 34 = .ok (.ldc2_w 117, 3) := by decide +kernel
theorem dX5_see_37 : decode cX5_see 37 = .ok (.invokestatic 75, 3) := by decide +kernel
theorem dX5_see_40 : decode cX5_see 40 = .ok (.ifCond .eq 25, 3) := by decide +kernel
theorem dX5_see_43 : decode cX5_see 43 = .ok (.iload 4, 2) := by decide +kernel
theorem dX5_see_45 : decode cX5_see 45 = .ok (.i2l, 1) := by decide +kernel
theorem dX5_see_46 : decode cX5_see 46 = .ok (.lconst 0, 1) := by decide +kernel
theorem dX5_see_47 : decode cX5_see 47 = .ok (.lconst 1, 1) := by decide +kernel
theorem dX5_see_48 : decode cX5_see 48 = .ok (.invokestatic 75, 3) := by decide +kernel
theorem dX5_see_51 : decode cX5_see 51 = .ok (.ifCond .eq 14, 3) := by decide +kernel
theorem dX5_see_54 : decode cX5_see 54 = .ok (.iload 5, 2) := by decide +kernel
theorem dX5_see_56 : decode cX5_see 56 = .ok (.i2l, 1) := by decide +kernel
theorem dX5_see_57 : decode cX5_see 57 = .ok (.lconst 0, 1) := by decide +kernel
theorem dX5_see_58 : decode cX5_see 58 = .ok (.lconst 1, 1) := by decide +kernel
theorem dX5_see_59 : decode cX5_see 59 = .ok (.invokestatic 75, 3) := by decide +kernel
theorem dX5_see_62 : decode cX5_see 62 = .ok (.ifCond .ne 6, 3) := by decide +kernel
theorem dX5_see_65 : decode cX5_see 65 = .ok (.bipush (-2), 2) := by decide +kernel
theorem dX5_see_67 : decode cX5_see 67 = .ok (.ireturn, 1) := by decide +kernel
theorem dX5_see_68 : decode cX5_see 68 = .ok (.aload_n 0, 1) := by decide +kernel
theorem dX5_see_69 : decode cX5_see 69 = .ok (.getfield 137, 3) := by decide +kernel
theorem dX5_see_72 : decode cX5_see 72 = .ok (.bipush 6, 2) := by decide +kernel
theorem dX5_see_74 : decode cX5_see 74 = .ok (.if_icmp .ne 6, 3) := by decide +kernel
theorem dX5_see_77 : decode cX5_see 77 = .ok (.bipush (-4), 2) := by decide +kernel
theorem dX5_see_79 : decode cX5_see 79 = .ok (.ireturn, 1) := by decide +kernel
theorem dX5_see_80 : decode cX5_see 80 = .ok (.aload_n 0, 1) := by decide +kernel
theorem dX5_see_81 : decode cX5_see 81 = .ok (.getfield 47, 3) := by decide +kernel
theorem dX5_see_84 : decode cX5_see 84 = .ok (.aload_n 0, 1) := by decide +kernel
theorem dX5_see_85 : decode cX5_see 85 = .ok (.getfield 137, 3) := by decide +kernel
theorem dX5_see_88 : decode cX5_see 88 = .ok (.iload_n 1, 1) := by decide +kernel
theorem dX5_see_89 : decode cX5_see 89 = .ok (.iastore, 1) := by decide +kernel
theorem dX5_see_90 : decode cX5_see 90 = .ok (.aload_n 0, 1) := by decide +kernel
theorem dX5_see_91 : decode cX5_see 91 = .ok (.getfield 50, 3) := by decide +kernel
theorem dX5_see_94 : decode cX5_see 94 = .ok (.aload_n 0, 1) := by decide +kernel
theorem dX5_see_95 : decode cX5_see 95 = .ok (.getfield 137, 3) := by decide +kernel
theorem dX5_see_98 : decode cX5_see 98 = .ok (.iload_n 2, 1) := by decide +kernel
theorem dX5_see_99 : decode cX5_see 99 = .ok (.iastore, 1) := by decide +kernel
theorem dX5_see_100 : decode cX5_see 100 = .ok (.aload_n 0, 1) := by decide +kernel
theorem dX5_see_101 : decode cX5_see 101 = .ok (.getfield 53, 3) := by decide +kernel
theorem dX5_see_104 : decode cX5_see 104 = .ok (.aload_n 0, 1) := by decide +kernel
theorem dX5_see_105 : decode cX5_see 105 = .ok (.getfield 137, 3) := by decide +kernel
theorem dX5_see_108 : decode cX5_see 108 = .ok (.iload_n 3, 1) := by decide +kernel
theorem dX5_see_109 : decode cX5_see 109 = .ok (.iastore, 1) := by decide +kernel
theorem dX5_see_110 : decode cX5_see 110 = .ok (.aload_n 0, 1) := by decide +kernel
theorem dX5_see_111 : decode cX5_see 111 = .ok (.getfield 56, 3) := by decide +kernel
theorem dX5_see_114 : decode cX5_see 114 = .ok (.aload_n 0, 1) := by decide +kernel
theorem dX5_see_115 : decode cX5_see 115 = .ok (.getfield 137, 3) := by decide +kernel
theorem dX5_see_118 : decode cX5_see 118 = .ok (.iload 4, 2) := by decide +kernel
theorem dX5_see_120 : decode cX5_see 120 = .ok (.iastore, 1) := by decide +kernel
theorem dX5_see_121 : decode cX5_see 121 = .ok (.aload_n 0, 1) := by decide +kernel
theorem dX5_see_122 : decode cX5_see 122 = .ok (.getfield 59, 3) := by decide +kernel
theorem dX5_see_125 : decode cX5_see 125 = .ok (.aload_n 0, 1) := by decide +kernel
theorem dX5_see_126 : decode cX5_see 126 = .ok (.getfield 137, 3) := by decide +kernel
theorem dX5_see_129 : decode cX5_see 129 = .ok (.iload 5, 2) := by decide +kernel
theorem dX5_see_131 : decode cX5_see 131 = .ok (.iastore, 1) := by decide +kernel
theorem dX5_see_132 : decode cX5_see 132 = .ok (.aload_n 0, 1) := by decide +kernel
theorem dX5_see_133 : decode cX5_see 133 = .ok (.dup, 1) := by decide +kernel
theorem dX5_see_134 : decode cX5_see 134 = .ok (.getfield 137, 3) := by decide +kernel
theorem dX5_see_137 : decode cX5_see 137 = .ok (.iconst 1, 1) := by decide +kernel
theorem dX5_see_138 : decode cX5_see 138 = .ok (.iadd, 1) := by decide +kernel
theorem dX5_see_139 : decode cX5_see 139 = .ok (.putfield 137, 3) := by decide +kernel
theorem dX5_see_142 : decode cX5_see 142 = .ok (.aload_n 0, 1) := by decide +kernel
theorem dX5_see_143 : decode cX5_see 143 = .ok (.getfield 137, 3) := by decide +kernel
theorem dX5_see_146 : decode cX5_see 146 = .ok (.ireturn, 1) := by decide +kernel
theorem dX5_unsee_0 : decode cX5_unsee 0 = .ok (.aload_n 0, 1) := by decide +kernel
theorem dX5_unsee_1 : decode cX5_unsee 1 = .ok (.iconst 0, 1) := by decide +kernel
theorem dX5_unsee_2 : decode cX5_unsee 2 = .ok (.putfield 68, 3) := by decide +kernel
theorem dX5_unsee_5 : decode cX5_unsee 5 = .ok (.aload_n 0, 1) := by decide +kernel
theorem dX5_unsee_6 : decode cX5_unsee 6 = .ok (.getfield 137, 3) := by decide +kernel
theorem dX5_unsee_9 : decode cX5_unsee 9 = .ok (.istore_n 1, 1) := by decide +kernel
theorem dX5_unsee_10 : decode cX5_unsee 10 = .ok (.aload_n 0, 1) := by decide +kernel
theorem dX5_unsee_11 : decode cX5_unsee 11 = .ok (.iconst 0, 1) := by decide +kernel
theorem dX5_unsee_12 : decode cX5_unsee 12 = .ok (.putfield 137, 3) := by decide +kernel
theorem dX5_unsee_15 : decode cX5_unsee 15 = .ok (.iload_n 1, 1) := by decide +kernel
theorem dX5_unsee_16 : decode cX5_unsee 16 = .ok (.ireturn, 1) := by decide +kernel
theorem dX5_findMay_0 : decode cX5_findMay 0 = .ok (.aload_n 0, 1) := by decide +kernel
theorem dX5_findMay_1 : decode cX5_findMay 1 = .ok (.iconst 0, 1) := by decide +kernel
theorem dX5_findMay_2 : decode cX5_findMay 2 = .ok (.putfield 210, 3) := by decide +kernel
theorem dX5_findMay_5 : decode cX5_findMay 5 = .ok (.aload_n 0, 1) := by decide +kernel
theorem dX5_findMay_6 : decode cX5_findMay 6 = .ok (.bipush (-9), 2) := by decide +kernel
theorem dX5_findMay_8 : decode cX5_findMay 8 = .ok (.putfield 213, 3) := by decide +kernel
theorem dX5_findMay_11 : decode cX5_findMay 11 = .ok (.iconst 0, 1) := by decide +kernel
theorem dX5_findMay_12 : decode cX5_findMay 12 = .ok (.istore_n 2, 1) := by decide +kernel
theorem dX5_findMay_13 : decode cX5_findMay 13 = .ok (.iload_n 2, 1) := by decide +kernel
theorem dX5_findMay_14 : decode cX5_findMay 14 = .ok (.bipush 30, 2) := by decide +kernel
theorem dX5_findMay_16 : decode cX5_findMay 16 = .ok (.if_icmp .ge 147, 3) := by decide +kernel
theorem dX5_findMay_19 : decode cX5_findMay 19 = .ok (.iconst 1, 1) := by decide +kernel
theorem dX5_findMay_20 : decode cX5_findMay 20 = .ok (.istore_n 3, 1) := by decide +kernel
theorem dX5_findMay_21 : decode cX5_findMay 21 = .ok (.iconst 0, 1) := by decide +kernel
theorem dX5_findMay_22 : decode cX5_findMay 22 = .ok (.istore 4, 2) := by decide +kernel
theorem dX5_findMay_24 : decode cX5_findMay 24 = .ok (.iload 4, 2) := by decide +kernel
theorem dX5_findMay_26 : decode cX5_findMay 26 = .ok (.aload_n 0, 1) := by decide +kernel
theorem dX5_findMay_27 : decode cX5_findMay 27 = .ok (.getfield 137, 3) := by decide +kernel
theorem dX5_findMay_30 : decode cX5_findMay 30 = .ok (.if_icmp .ge 86, 3) := by decide +kernel
theorem dX5_findMay_33 : decode cX5_findMay 33 = .ok (.iload_n 2, 1) := by decide +kernel
theorem dX5_findMay_34 : decode cX5_findMay 34 = .ok (.bipush 10, 2) := by decide +kernel
theorem dX5_findMay_36 : decode cX5_findMay 36 = .ok (.idiv, 1) := by decide +kernel
theorem dX5_findMay_37 : decode cX5_findMay 37 = .ok (.iload_n 2, 1) := by decide +kernel
theorem dX5_findMay_38 : decode cX5_findMay 38 = .ok (.bipush 10, 2) := by decide +kernel
theorem dX5_findMay_40 : decode cX5_findMay 40 = .ok (.irem, 1) := by decide +kernel
theorem dX5_findMay_41 : decode cX5_findMay 41 = .ok (.aload_n 0, 1) := by decide +kernel
theorem dX5_findMay_42 : decode cX5_findMay 42 = .ok (.getfield 50, 3) := by decide +kernel
theorem dX5_findMay_45 : decode cX5_findMay 45 = .ok (.iload 4, 2) := by decide +kernel
theorem dX5_findMay_47 : decode cX5_findMay 47 = .ok (.iaload, 1) := by decide +kernel
theorem dX5_findMay_48 : decode cX5_findMay 48 = .ok (.aload_n 0, 1) := by decide +kernel
theorem dX5_findMay_49 : decode cX5_findMay 49 = .ok (.getfield 53, 3) := by decide +kernel
theorem dX5_findMay_52 : decode cX5_findMay 52 = .ok (.iload 4, 2) := by decide +kernel
theorem dX5_findMay_54 : decode cX5_findMay 54 = .ok (.iaload, 1) := by decide +kernel
theorem dX5_findMay_55 : decode cX5_findMay 55 = .ok (.aload_n 0, 1) := by decide +kernel
theorem dX5_findMay_56 : decode cX5_findMay 56 = .ok (.getfield 56, 3) := by decide +kernel
theorem dX5_findMay_59 : decode cX5_findMay 59 = .ok (.iload 4, 2) := by decide +kernel
theorem dX5_findMay_61 : decode cX5_findMay 61 = .ok (.iaload, 1) := by decide +kernel
theorem dX5_findMay_62 : decode cX5_findMay 62 = .ok (.iconst 0, 1) := by decide +kernel
theorem dX5_findMay_63 : decode cX5_findMay 63 = .ok (.invokestatic 126, 3) := by decide +kernel
theorem dX5_findMay_66 : decode cX5_findMay 66 = .ok (.istore 5, 2) := by decide +kernel
theorem dX5_findMay_68 : decode cX5_findMay 68 = .ok (.iload_n 3, 1) := by decide +kernel
theorem dX5_findMay_69 : decode cX5_findMay 69 = .ok (.ifCond .eq 39, 3) := by decide +kernel
theorem dX5_findMay_72 : decode cX5_findMay 72 = .ok (.aload_n 0, 1) := by decide +kernel
theorem dX5_findMay_73 : decode cX5_findMay 73 = .ok (.getfield 47, 3) := by decide +kernel
theorem dX5_findMay_76 : decode cX5_findMay 76 = .ok (.iload 4, 2) := by decide +kernel
theorem dX5_findMay_78 : decode cX5_findMay 78 = .ok (.iaload, 1) := by decide +kernel
theorem dX5_findMay_79 : decode cX5_findMay 79 = .ok (.iload_n 1, 1) := by decide +kernel
theorem dX5_findMay_80 : decode cX5_findMay 80 = .ok (.if_icmp .ne 24, 3) := by decide +kernel
theorem dX5_findMay_83 : decode cX5_findMay 83 = .ok (.iload 5, 2) := by decide +kernel
theorem dX5_findMay_85 : decode cX5_findMay 85 = .ok (.aload_n 0, 1) := by decide +kernel
theorem dX5_findMay_86 : decode cX5_findMay 86 = .ok (.getfield 59, 3) := by decide +kernel
theorem dX5_findMay_89 : decode cX5_findMay 89 = .ok (.iload 4, 2) := by decide +kernel
theorem dX5_findMay_91 : decode cX5_findMay 91 = .ok (.iaload, 1) := by decide +kernel
theorem dX5_findMay_92 : decode cX5_findMay 92 = .ok (.iconst 1, 1) := by decide +kernel
theorem dX5_findMay_93 : decode cX5_findMay 93 = .ok (.if_icmp .ne 7, 3) := by decide +kernel
theorem dX5_findMay_96 : decode cX5_findMay 96 = .ok (.iconst 1, 1) := by decide +kernel
theorem dX5_findMay_97 : decode cX5_findMay 97 = .ok (.goto 4, 3) := by decide +kernel
theorem dX5_findMay_100 : decode cX5_findMay 100 = .ok (.iconst 0, 1) := by decide +kernel
theorem dX5_findMay_101 : decode cX5_findMay 101 = .ok (.if_icmp .ne 7, 3) := by decide +kernel
theorem dX5_findMay_104 : decode cX5_findMay 104 = .ok (.iconst 1, 1) := by decide +kernel
theorem dX5_findMay_105 : decode cX5_findMay 105 = .ok (.goto 4, 3) := by decide +kernel
theorem dX5_findMay_108 : decode cX5_findMay 108 = .ok (.iconst 0, 1) := by decide +kernel
theorem dX5_findMay_109 : decode cX5_findMay 109 = .ok (.istore_n 3, 1) := by decide +kernel
theorem dX5_findMay_110 : decode cX5_findMay 110 = .ok (.iinc 4 1, 3) := by decide +kernel
theorem dX5_findMay_113 : decode cX5_findMay 113 = .ok (.goto (-89), 3) := by decide +kernel
theorem dX5_findMay_116 : decode cX5_findMay 116 = .ok (.aload_n 0, 1) := by decide +kernel
theorem dX5_findMay_117 : decode cX5_findMay 117 = .ok (.iload_n 3, 1) := by decide +kernel
theorem dX5_findMay_118 : decode cX5_findMay 118 = .ok (.ifCond .eq 14, 3) := by decide +kernel
theorem dX5_findMay_121 : decode cX5_findMay 121 = .ok (.aload_n 0, 1) := by decide +kernel
theorem dX5_findMay_122 : decode cX5_findMay 122 = .ok (.getfield 210, 3) := by decide +kernel
theorem dX5_findMay_125 : decode cX5_findMay 125 = .ok (.ifCond .ne 7, 3) := by decide +kernel
theorem dX5_findMay_128 : decode cX5_findMay 128 = .ok (.iload_n 2, 1) := by decide +kernel
theorem dX5_findMay_129 : decode cX5_findMay 129 = .ok (.goto 7, 3) := by decide +kernel
theorem dX5_findMay_132 : decode cX5_findMay 132 = .ok (.aload_n 0, 1) := by decide +kernel
theorem dX5_findMay_133 : decode cX5_findMay 133 = .ok (.getfield 213, 3) := by decide +kernel
theorem dX5_findMay_136 : decode cX5_findMay 136 = .ok (.putfield 213, 3) := by decide +kernel
theorem dX5_findMay_139 : decode cX5_findMay 139 = .ok (.aload_n 0, 1) := by decide +kernel
theorem dX5_findMay_140 : decode cX5_findMay 140 = .ok (.dup, 1) := by decide +kernel
theorem dX5_findMay_141 : decode cX5_findMay 141 = .ok (.getfield 210, 3) := by decide +kernel
theorem dX5_findMay_144 : decode cX5_findMay 144 = .ok (.iload_n 3, 1) := by decide +kernel
theorem dX5_findMay_145 : decode cX5_findMay 145 = .ok (.ifCond .eq 7, 3) := by decide +kernel
theorem dX5_findMay_148 : decode cX5_findMay 148 = .ok (.iconst 1, 1) := by decide +kernel
theorem dX5_findMay_149 : decode cX5_findMay 149 = .ok (.goto 4, 3) := by decide +kernel
theorem dX5_findMay_152 : decode cX5_findMay 152 = .ok (.iconst 0, 1) := by decide +kernel
theorem dX5_findMay_153 : decode cX5_findMay 153 = .ok (.iadd, 1) := by decide +kernel
theorem dX5_findMay_154 : decode cX5_findMay 154 = .ok (.putfield 210, 3) := by decide +kernel
theorem dX5_findMay_157 : decode cX5_findMay 157 = .ok (.iinc 2 1, 3) := by decide +kernel
theorem dX5_findMay_160 : decode cX5_findMay 160 = .ok (.goto (-147), 3) := by decide +kernel
theorem dX5_findMay_163 : decode cX5_findMay 163 = .ok (.return_, 1) := by decide +kernel
theorem dX5_may_0 : decode cX5_may 0 = .ok (.aload_n 0, 1) := by decide +kernel
theorem dX5_may_1 : decode cX5_may 1 = .ok (.iconst 0, 1) := by decide +kernel
theorem dX5_may_2 : decode cX5_may 2 = .ok (.putfield 68, 3) := by decide +kernel
theorem dX5_may_5 : decode cX5_may 5 = .ok (.iload_n 1, 1) := by decide +kernel
theorem dX5_may_6 : decode cX5_may 6 = .ok (.i2l, 1) := by decide +kernel
theorem dX5_may_7 : decode cX5_may 7 = .ok (.lconst 0, 1) := by decide +kernel
theorem dX5_may_8 : decode cX5_may 8 = .ok (.ldc2_w 117, 3) := by decide +kernel
theorem dX5_may_11 : decode cX5_may 11 = .ok (.invokestatic 75, 3) := by decide +kernel
theorem dX5_may_14 : decode cX5_may 14 = .ok (.ifCond .ne 5, 3) := by decide +kernel
theorem dX5_may_17 : decode cX5_may 17 = .ok (.iconst (-1), 1) := by decide +kernel
theorem dX5_may_18 : decode cX5_may 18 = .ok (.ireturn, 1) := by decide +kernel
theorem dX5_may_19 : decode cX5_may 19 = .ok (.iload_n 2, 1) := by decide +kernel
theorem dX5_may_20 : decode cX5_may 20 = .ok (.i2l, 1) := by decide +kernel
theorem dX5_may_21 : decode cX5_may 21 = .ok (.lconst 0, 1) := by decide +kernel
theorem dX5_may_22 : decode cX5_may 22 = .ok (.lconst 1, 1) := by decide +kernel
theorem dX5_may_23 : decode cX5_may 23 = .ok (.invokestatic 75, 3) := by decide +kernel
theorem dX5_may_26 : decode cX5_may 26 = .ok (.ifCond .ne 6, 3) := by decide +kernel
theorem dX5_may_29 : decode cX5_may 29 = .ok (.bipush (-2), 2) := by decide +kernel
theorem dX5_may_31 : decode cX5_may 31 = .ok (.ireturn, 1) := by decide +kernel
theorem dX5_may_32 : decode cX5_may 32 = .ok (.aload_n 0, 1) := by decide +kernel
theorem dX5_may_33 : decode cX5_may 33 = .ok (.iload_n 1, 1) := by decide +kernel
theorem dX5_may_34 : decode cX5_may 34 = .ok (.invokevirtual 216, 3) := by decide +kernel
theorem dX5_may_37 : decode cX5_may 37 = .ok (.iload_n 2, 1) := by decide +kernel
theorem dX5_may_38 : decode cX5_may 38 = .ok (.ifCond .ne 10, 3) := by decide +kernel
theorem dX5_may_41 : decode cX5_may 41 = .ok (.aload_n 0, 1) := by decide +kernel
theorem dX5_may_42 : decode cX5_may 42 = .ok (.getfield 210, 3) := by decide +kernel
theorem dX5_may_45 : decode cX5_may 45 = .ok (.goto 7, 3) := by decide +kernel
theorem dX5_may_48 : decode cX5_may 48 = .ok (.aload_n 0, 1) := by decide +kernel
theorem dX5_may_49 : decode cX5_may 49 = .ok (.getfield 213, 3) := by decide +kernel
theorem dX5_may_52 : decode cX5_may 52 = .ok (.ireturn, 1) := by decide +kernel
theorem dX5_sent_0 : decode cX5_sent 0 = .ok (.iconst 0, 1) := by decide +kernel
theorem dX5_sent_1 : decode cX5_sent 1 = .ok (.istore_n 1, 1) := by decide +kernel
theorem dX5_sent_2 : decode cX5_sent 2 = .ok (.iconst 0, 1) := by decide +kernel
theorem dX5_sent_3 : decode cX5_sent 3 = .ok (.istore_n 2, 1) := by decide +kernel
theorem dX5_sent_4 : decode cX5_sent 4 = .ok (.iload_n 2, 1) := by decide +kernel
theorem dX5_sent_5 : decode cX5_sent 5 = .ok (.aload_n 0, 1) := by decide +kernel
theorem dX5_sent_6 : decode cX5_sent 6 = .ok (.getfield 72, 3) := by decide +kernel
theorem dX5_sent_9 : decode cX5_sent 9 = .ok (.if_icmp .ge 48, 3) := by decide +kernel
theorem dX5_sent_12 : decode cX5_sent 12 = .ok (.iload_n 1, 1) := by decide +kernel
theorem dX5_sent_13 : decode cX5_sent 13 = .ok (.aload_n 0, 1) := by decide +kernel
theorem dX5_sent_14 : decode cX5_sent 14 = .ok (.getfield 31, 3) := by decide +kernel
theorem dX5_sent_17 : decode cX5_sent 17 = .ok (.iload_n 2, 1) := by decide +kernel
theorem dX5_sent_18 : decode cX5_sent 18 = .ok (.iconst 1, 1) := by decide +kernel
theorem dX5_sent_19 : decode cX5_sent 19 = .ok (.invokestatic 119, 3) := by decide +kernel
theorem dX5_sent_22 : decode cX5_sent 22 = .ok (.bipush (-9), 2) := by decide +kernel
theorem dX5_sent_24 : decode cX5_sent 24 = .ok (.if_icmp .ne 7, 3) := by decide +kernel
theorem dX5_sent_27 : decode cX5_sent 27 = .ok (.iconst 0, 1) := by decide +kernel
theorem dX5_sent_28 : decode cX5_sent 28 = .ok (.goto 21, 3) := by decide +kernel
theorem dX5_sent_31 : decode cX5_sent 31 = .ok (.aload_n 0, 1) := by decide +kernel
theorem dX5_sent_32 : decode cX5_sent 32 = .ok (.aload_n 0, 1) := by decide +kernel
theorem dX5_sent_33 : decode cX5_sent 33 = .ok (.getfield 31, 3) := by decide +kernel
theorem dX5_sent_36 : decode cX5_sent 36 = .ok (.iload_n 2, 1) := by decide +kernel
theorem dX5_sent_37 : decode cX5_sent 37 = .ok (.iconst 1, 1) := by decide +kernel
theorem dX5_sent_38 : decode cX5_sent 38 = .ok (.invokevirtual 164, 3) := by decide +kernel
theorem dX5_sent_41 : decode cX5_sent 41 = .ok (.ifCond .eq 7, 3) := by decide +kernel
theorem dX5_sent_44 : decode cX5_sent 44 = .ok (.iconst (-1), 1) := by decide +kernel
theorem dX5_sent_45 : decode cX5_sent 45 = .ok (.goto 4, 3) := by decide +kernel
theorem dX5_sent_48 : decode cX5_sent 48 = .ok (.iconst 1, 1) := by decide +kernel
theorem dX5_sent_49 : decode cX5_sent 49 = .ok (.iadd, 1) := by decide +kernel
theorem dX5_sent_50 : decode cX5_sent 50 = .ok (.istore_n 1, 1) := by decide +kernel
theorem dX5_sent_51 : decode cX5_sent 51 = .ok (.iinc 2 1, 3) := by decide +kernel
theorem dX5_sent_54 : decode cX5_sent 54 = .ok (.goto (-50), 3) := by decide +kernel
theorem dX5_sent_57 : decode cX5_sent 57 = .ok (.iload_n 1, 1) := by decide +kernel
theorem dX5_sent_58 : decode cX5_sent 58 = .ok (.ireturn, 1) := by decide +kernel
theorem dX5_gain_0 : decode cX5_gain 0 = .ok (.iload_n 1, 1) := by decide +kernel
theorem dX5_gain_1 : decode cX5_gain 1 = .ok (.ifCond .ne 14, 3) := by decide +kernel
theorem dX5_gain_4 : decode cX5_gain 4 = .ok (.iload_n 2, 1) := by decide +kernel
theorem dX5_gain_5 : decode cX5_gain 5 = .ok (.iconst 1, 1) := by decide +kernel
theorem dX5_gain_6 : decode cX5_gain 6 = .ok (.if_icmp .ne 7, 3) := by decide +kernel
theorem dX5_gain_9 : decode cX5_gain 9 = .ok (.iconst (-1), 1) := by decide +kernel
theorem dX5_gain_10 : decode cX5_gain 10 = .ok (.goto 4, 3) := by decide +kernel
theorem dX5_gain_13 : decode cX5_gain 13 = .ok (.iconst 0, 1) := by decide +kernel
theorem dX5_gain_14 : decode cX5_gain 14 = .ok (.ireturn, 1) := by decide +kernel
theorem dX5_gain_15 : decode cX5_gain 15 = .ok (.iload_n 2, 1) := by decide +kernel
theorem dX5_gain_16 : decode cX5_gain 16 = .ok (.iconst 1, 1) := by decide +kernel
theorem dX5_gain_17 : decode cX5_gain 17 = .ok (.if_icmp .ne 9, 3) := by decide +kernel
theorem dX5_gain_20 : decode cX5_gain 20 = .ok (.iload_n 0, 1) := by decide +kernel
theorem dX5_gain_21 : decode cX5_gain 21 = .ok (.iconst 2, 1) := by decide +kernel
theorem dX5_gain_22 : decode cX5_gain 22 = .ok (.idiv, 1) := by decide +kernel
theorem dX5_gain_23 : decode cX5_gain 23 = .ok (.goto 4, 3) := by decide +kernel
theorem dX5_gain_26 : decode cX5_gain 26 = .ok (.iload_n 0, 1) := by decide +kernel
theorem dX5_gain_27 : decode cX5_gain 27 = .ok (.ireturn, 1) := by decide +kernel
theorem dX5_rests_0 : decode cX5_rests 0 = .ok (.aload_n 0, 1) := by decide +kernel
theorem dX5_rests_1 : decode cX5_rests 1 = .ok (.iconst 0, 1) := by decide +kernel
theorem dX5_rests_2 : decode cX5_rests 2 = .ok (.putfield 68, 3) := by decide +kernel
theorem dX5_rests_5 : decode cX5_rests 5 = .ok (.iload_n 1, 1) := by decide +kernel
theorem dX5_rests_6 : decode cX5_rests 6 = .ok (.i2l, 1) := by decide +kernel
theorem dX5_rests_7 : decode cX5_rests 7 = .ok (.lconst 0, 1) := by decide +kernel
theorem dX5_rests_8 : decode cX5_rests 8 = .ok (.lconst 1, 1) := by decide +kernel
theorem dX5_rests_9 : decode cX5_rests 9 = .ok (.invokestatic 75, 3) := by decide +kernel
theorem dX5_rests_12 : decode cX5_rests 12 = .ok (.ifCond .ne 6, 3) := by decide +kernel
theorem dX5_rests_15 : decode cX5_rests 15 = .ok (.bipush (-2), 2) := by decide +kernel
theorem dX5_rests_17 : decode cX5_rests 17 = .ok (.ireturn, 1) := by decide +kernel
theorem dX5_rests_18 : decode cX5_rests 18 = .ok (.aload_n 0, 1) := by decide +kernel
theorem dX5_rests_19 : decode cX5_rests 19 = .ok (.invokevirtual 220, 3) := by decide +kernel
theorem dX5_rests_22 : decode cX5_rests 22 = .ok (.istore_n 2, 1) := by decide +kernel
theorem dX5_rests_23 : decode cX5_rests 23 = .ok (.aload_n 0, 1) := by decide +kernel
theorem dX5_rests_24 : decode cX5_rests 24 = .ok (.iconst 0, 1) := by decide +kernel
theorem dX5_rests_25 : decode cX5_rests 25 = .ok (.putfield 223, 3) := by decide +kernel
theorem dX5_rests_28 : decode cX5_rests 28 = .ok (.aload_n 0, 1) := by decide +kernel
theorem dX5_rests_29 : decode cX5_rests 29 = .ok (.bipush (-9), 2) := by decide +kernel
theorem dX5_rests_31 : decode cX5_rests 31 = .ok (.putfield 226, 3) := by decide +kernel
theorem dX5_rests_34 : decode cX5_rests 34 = .ok (.iconst 0, 1) := by decide +kernel
theorem dX5_rests_35 : decode cX5_rests 35 = .ok (.istore_n 3, 1) := by decide +kernel
theorem dX5_rests_36 : decode cX5_rests 36 = .ok (.iload_n 3, 1) := by decide +kernel
theorem dX5_rests_37 : decode cX5_rests 37 = .ok (.iconst 2, 1) := by decide +kernel
theorem dX5_rests_38 : decode cX5_rests 38 = .ok (.if_icmp .ge 118, 3) := by decide +kernel
theorem dX5_rests_41 : decode cX5_rests 41 = .ok (.iconst 0, 1) := by decide +kernel
theorem dX5_rests_42 : decode cX5_rests 42 = .ok (.istore 4, 2) := by decide +kernel
theorem dX5_rests_44 : decode cX5_rests 44 = .ok (.iload 4, 2) := by decide +kernel
theorem dX5_rests_46 : decode cX5_rests 46 = .ok (.iconst 2, 1) := by decide +kernel
theorem dX5_rests_47 : decode cX5_rests 47 = .ok (.if_icmp .ge 103, 3) := by decide +kernel
theorem dX5_rests_50 : decode cX5_rests 50 = .ok (.iload_n 2, 1) := by decide +kernel
theorem dX5_rests_51 : decode cX5_rests 51 = .ok (.iconst 1, 1) := by decide +kernel
theorem dX5_rests_52 : decode cX5_rests 52 = .ok (.iload_n 3, 1) := by decide +kernel
theorem dX5_rests_53 : decode cX5_rests 53 = .ok (.isub, 1) := by decide +kernel
theorem dX5_rests_54 : decode cX5_rests 54 = .ok (.iload 4, 2) := by decide +kernel
theorem dX5_rests_56 : decode cX5_rests 56 = .ok (.invokestatic 229, 3) := by decide +kernel
theorem dX5_rests_59 : decode cX5_rests 59 = .ok (.iload_n 2, 1) := by decide +kernel
theorem dX5_rests_60 : decode cX5_rests 60 = .ok (.iload_n 3, 1) := by decide +kernel
theorem dX5_rests_61 : decode cX5_rests 61 = .ok (.iload 4, 2) := by decide +kernel
theorem dX5_rests_63 : decode cX5_rests 63 = .ok (.invokestatic 229, 3) := by decide +kernel
theorem dX5_rests_66 : decode cX5_rests 66 = .ok (.if_icmp .gt 26, 3) := by decide +kernel
theorem dX5_rests_69 : decode cX5_rests 69 = .ok (.iload_n 2, 1) := by decide +kernel
theorem dX5_rests_70 : decode cX5_rests 70 = .ok (.iconst 1, 1) := by decide +kernel
theorem dX5_rests_71 : decode cX5_rests 71 = .ok (.iload 4, 2) := by decide +kernel
theorem dX5_rests_73 : decode cX5_rests 73 = .ok (.isub, 1) := by decide +kernel
theorem dX5_rests_74 : decode cX5_rests 74 = .ok (.iload_n 3, 1) := by decide +kernel
theorem dX5_rests_75 : decode cX5_rests 75 = .ok (.invokestatic 229, 3) := by decide +kernel
theorem dX5_rests_78 : decode cX5_rests 78 = .ok (.iload_n 2, 1) := by decide +kernel
theorem dX5_rests_79 : decode cX5_rests 79 = .ok (.iload 4, 2) := by decide +kernel
theorem dX5_rests_81 : decode cX5_rests 81 = .ok (.iload_n 3, 1) := by decide +kernel
theorem dX5_rests_82 : decode cX5_rests 82 = .ok (.invokestatic 229, 3) := by decide +kernel
theorem dX5_rests_85 : decode cX5_rests 85 = .ok (.if_icmp .gt 7, 3) := by decide +kernel
theorem dX5_rests_88 : decode cX5_rests 88 = .ok (.iconst 1, 1) := by decide +kernel
theorem dX5_rests_89 : decode cX5_rests 89 = .ok (.goto 4, 3) := by decide +kernel
theorem dX5_rests_92 : decode cX5_rests 92 = .ok (.iconst 0, 1) := by decide +kernel
theorem dX5_rests_93 : decode cX5_rests 93 = .ok (.istore 5, 2) := by decide +kernel
theorem dX5_rests_95 : decode cX5_rests 95 = .ok (.aload_n 0, 1) := by decide +kernel
theorem dX5_rests_96 : decode cX5_rests 96 = .ok (.iload 5, 2) := by decide +kernel
theorem dX5_rests_98 : decode cX5_rests 98 = .ok (.ifCond .eq 20, 3) := by decide +kernel
theorem dX5_rests_101 : decode cX5_rests 101 = .ok (.aload_n 0, 1) := by decide +kernel
theorem dX5_rests_102 : decode cX5_rests 102 = .ok (.getfield 223, 3) := by decide +kernel
theorem dX5_rests_105 : decode cX5_rests 105 = .ok (.ifCond .ne 13, 3) := by decide +kernel
theorem dX5_rests_108 : decode cX5_rests 108 = .ok (.bipush 10, 2) := by decide +kernel
theorem dX5_rests_110 : decode cX5_rests 110 = .ok (.iload_n 3, 1) := by decide +kernel
theorem dX5_rests_111 : decode cX5_rests 111 = .ok (.imul, 1) := by decide +kernel
theorem dX5_rests_112 : decode cX5_rests 112 = .ok (.iload 4, 2) := by decide +kernel
theorem dX5_rests_114 : decode cX5_rests 114 = .ok (.iadd, 1) := by decide +kernel
theorem dX5_rests_115 : decode cX5_rests 115 = .ok (.goto 7, 3) := by decide +kernel
theorem dX5_rests_118 : decode cX5_rests 118 = .ok (.aload_n 0, 1) := by decide +kernel
theorem dX5_rests_119 : decode cX5_rests 119 = .ok (.getfield 226, 3) := by decide +kernel
theorem dX5_rests_122 : decode cX5_rests 122 = .ok (.putfield 226, 3) := by decide +kernel
theorem dX5_rests_125 : decode cX5_rests 125 = .ok (.aload_n 0, 1) := by decide +kernel
theorem dX5_rests_126 : decode cX5_rests 126 = .ok (.dup, 1) := by decide +kernel
theorem dX5_rests_127 : decode cX5_rests 127 = .ok (.getfield 223, 3) := by decide +kernel
theorem dX5_rests_130 : decode cX5_rests 130 = .ok (.iload 5, 2) := by decide +kernel
theorem dX5_rests_132 : decode cX5_rests 132 = .ok (.ifCond .eq 7, 3) := by decide +kernel
theorem dX5_rests_135 : decode cX5_rests 135 = .ok (.iconst 1, 1) := by decide +kernel
theorem dX5_rests_136 : decode cX5_rests 136 = .ok (.goto 4, 3) := by decide +kernel
theorem dX5_rests_139 : decode cX5_rests 139 = .ok (.iconst 0, 1) := by decide +kernel
theorem dX5_rests_140 : decode cX5_rests 140 = .ok (.iadd, 1) := by decide +kernel
theorem dX5_rests_141 : decode cX5_rests 141 = .ok (.putfield 223, 3) := by decide +kernel
theorem dX5_rests_144 : decode cX5_rests 144 = .ok (.iinc 4 1, 3) := by decide +kernel
theorem dX5_rests_147 : decode cX5_rests 147 = .ok (.goto (-103), 3) := by decide +kernel
theorem dX5_rests_150 : decode cX5_rests 150 = .ok (.iinc 3 1, 3) := by decide +kernel
theorem dX5_rests_153 : decode cX5_rests 153 = .ok (.goto (-117), 3) := by decide +kernel
theorem dX5_rests_156 : decode cX5_rests 156 = .ok (.iload_n 1, 1) := by decide +kernel
theorem dX5_rests_157 : decode cX5_rests 157 = .ok (.ifCond .ne 10, 3) := by decide +kernel
theorem dX5_rests_160 : decode cX5_rests 160 = .ok (.aload_n 0, 1) := by decide +kernel
theorem dX5_rests_161 : decode cX5_rests 161 = .ok (.getfield 223, 3) := by decide +kernel
theorem dX5_rests_164 : decode cX5_rests 164 = .ok (.goto 7, 3) := by decide +kernel
theorem dX5_rests_167 : decode cX5_rests 167 = .ok (.aload_n 0, 1) := by decide +kernel
theorem dX5_rests_168 : decode cX5_rests 168 = .ok (.getfield 226, 3) := by decide +kernel
theorem dX5_rests_171 : decode cX5_rests 171 = .ok (.ireturn, 1) := by decide +kernel
theorem dX5_balkers_0 : decode cX5_balkers 0 = .ok (.aload_n 0, 1) := by decide +kernel
theorem dX5_balkers_1 : decode cX5_balkers 1 = .ok (.invokevirtual 175, 3) := by decide +kernel
theorem dX5_balkers_4 : decode cX5_balkers 4 = .ok (.iconst 0, 1) := by decide +kernel
theorem dX5_balkers_5 : decode cX5_balkers 5 = .ok (.istore_n 3, 1) := by decide +kernel
theorem dX5_balkers_6 : decode cX5_balkers 6 = .ok (.iconst 0, 1) := by decide +kernel
theorem dX5_balkers_7 : decode cX5_balkers 7 = .ok (.istore 4, 2) := by decide +kernel
theorem dX5_balkers_9 : decode cX5_balkers 9 = .ok (.iload 4, 2) := by decide +kernel
theorem dX5_balkers_11 : decode cX5_balkers 11 = .ok (.aload_n 0, 1) := by decide +kernel
theorem dX5_balkers_12 : decode cX5_balkers 12 = .ok (.getfield 72, 3) := by decide +kernel
theorem dX5_balkers_15 : decode cX5_balkers 15 = .ok (.if_icmp .ge 79, 3) := by decide +kernel
theorem dX5_balkers_18 : decode cX5_balkers 18 = .ok (.aload_n 0, 1) := by decide +kernel
theorem dX5_balkers_19 : decode cX5_balkers 19 = .ok (.getfield 34, 3) := by decide +kernel
theorem dX5_balkers_22 : decode cX5_balkers 22 = .ok (.bipush 10, 2) := by decide +kernel
theorem dX5_balkers_24 : decode cX5_balkers 24 = .ok (.iload 4, 2) := by decide +kernel
theorem dX5_balkers_26 : decode cX5_balkers 26 = .ok (.iadd, 1) := by decide +kernel
theorem dX5_balkers_27 : decode cX5_balkers 27 = .ok (.iload_n 2, 1) := by decide +kernel
theorem dX5_balkers_28 : decode cX5_balkers 28 = .ok (.iload 4, 2) := by decide +kernel
theorem dX5_balkers_30 : decode cX5_balkers 30 = .ok (.invokestatic 140, 3) := by decide +kernel
theorem dX5_balkers_33 : decode cX5_balkers 33 = .ok (.ifCond .eq 7, 3) := by decide +kernel
theorem dX5_balkers_36 : decode cX5_balkers 36 = .ok (.iconst 0, 1) := by decide +kernel
theorem dX5_balkers_37 : decode cX5_balkers 37 = .ok (.goto 13, 3) := by decide +kernel
theorem dX5_balkers_40 : decode cX5_balkers 40 = .ok (.aload_n 0, 1) := by decide +kernel
theorem dX5_balkers_41 : decode cX5_balkers 41 = .ok (.getfield 31, 3) := by decide +kernel
theorem dX5_balkers_44 : decode cX5_balkers 44 = .ok (.bipush 10, 2) := by decide +kernel
theorem dX5_balkers_46 : decode cX5_balkers 46 = .ok (.iload 4, 2) := by decide +kernel
theorem dX5_balkers_48 : decode cX5_balkers 48 = .ok (.iadd, 1) := by decide +kernel
theorem dX5_balkers_49 : decode cX5_balkers 49 = .ok (.iaload, 1) := by decide +kernel
theorem dX5_balkers_50 : decode cX5_balkers 50 = .ok (.iastore, 1) := by decide +kernel
theorem dX5_balkers_51 : decode cX5_balkers 51 = .ok (.iload_n 3, 1) := by decide +kernel
theorem dX5_balkers_52 : decode cX5_balkers 52 = .ok (.aload_n 0, 1) := by decide +kernel
theorem dX5_balkers_53 : decode cX5_balkers 53 = .ok (.getfield 34, 3) := by decide +kernel
theorem dX5_balkers_56 : decode cX5_balkers 56 = .ok (.iload 4, 2) := by decide +kernel
theorem dX5_balkers_58 : decode cX5_balkers 58 = .ok (.iload_n 1, 1) := by decide +kernel
theorem dX5_balkers_59 : decode cX5_balkers 59 = .ok (.invokestatic 119, 3) := by decide +kernel
theorem dX5_balkers_62 : decode cX5_balkers 62 = .ok (.bipush (-9), 2) := by decide +kernel
theorem dX5_balkers_64 : decode cX5_balkers 64 = .ok (.if_icmp .eq 21, 3) := by decide +kernel
theorem dX5_balkers_67 : decode cX5_balkers 67 = .ok (.aload_n 0, 1) := by decide +kernel
theorem dX5_balkers_68 : decode cX5_balkers 68 = .ok (.aload_n 0, 1) := by decide +kernel
theorem dX5_balkers_69 : decode cX5_balkers 69 = .ok (.getfield 34, 3) := by decide +kernel
theorem dX5_balkers_72 : decode cX5_balkers 72 = .ok (.iload 4, 2) := by decide +kernel
theorem dX5_balkers_74 : decode cX5_balkers 74 = .ok (.iload_n 1, 1) := by decide +kernel
theorem dX5_balkers_75 : decode cX5_balkers 75 = .ok (.invokevirtual 164, 3) := by decide +kernel
theorem dX5_balkers_78 : decode cX5_balkers 78 = .ok (.ifCond .eq 7, 3) := by decide +kernel
theorem dX5_balkers_81 : decode cX5_balkers 81 = .ok (.iconst 1, 1) := by decide +kernel
theorem dX5_balkers_82 : decode cX5_balkers 82 = .ok (.goto 4, 3) := by decide +kernel
theorem dX5_balkers_85 : decode cX5_balkers 85 = .ok (.iconst 0, 1) := by decide +kernel
theorem dX5_balkers_86 : decode cX5_balkers 86 = .ok (.iadd, 1) := by decide +kernel
theorem dX5_balkers_87 : decode cX5_balkers 87 = .ok (.istore_n 3, 1) := by decide +kernel
theorem dX5_balkers_88 : decode cX5_balkers 88 = .ok (.iinc 4 1, 3) := by decide +kernel
theorem dX5_balkers_91 : decode cX5_balkers 91 = .ok (.goto (-82), 3) := by decide +kernel
theorem dX5_balkers_94 : decode cX5_balkers 94 = .ok (.iload_n 3, 1) := by decide +kernel
theorem dX5_balkers_95 : decode cX5_balkers 95 = .ok (.ireturn, 1) := by decide +kernel
theorem dX5_forgets_0 : decode cX5_forgets 0 = .ok (.aload_n 0, 1) := by decide +kernel
theorem dX5_forgets_1 : decode cX5_forgets 1 = .ok (.iconst 0, 1) := by decide +kernel
theorem dX5_forgets_2 : decode cX5_forgets 2 = .ok (.putfield 68, 3) := by decide +kernel
theorem dX5_forgets_5 : decode cX5_forgets 5 = .ok (.iload_n 1, 1) := by decide +kernel
theorem dX5_forgets_6 : decode cX5_forgets 6 = .ok (.i2l, 1) := by decide +kernel
theorem dX5_forgets_7 : decode cX5_forgets 7 = .ok (.lconst 0, 1) := by decide +kernel
theorem dX5_forgets_8 : decode cX5_forgets 8 = .ok (.lconst 1, 1) := by decide +kernel
theorem dX5_forgets_9 : decode cX5_forgets 9 = .ok (.invokestatic 75, 3) := by decide +kernel
theorem dX5_forgets_12 : decode cX5_forgets 12 = .ok (.ifCond .eq 27, 3) := by decide +kernel
theorem dX5_forgets_15 : decode cX5_forgets 15 = .ok (.iload_n 2, 1) := by decide +kernel
theorem dX5_forgets_16 : decode cX5_forgets 16 = .ok (.i2l, 1) := by decide +kernel
theorem dX5_forgets_17 : decode cX5_forgets 17 = .ok (.lconst 0, 1) := by decide +kernel
theorem dX5_forgets_18 : decode cX5_forgets 18 = .ok (.ldc2_w 185, 3) := by decide +kernel
theorem dX5_forgets_21 : decode cX5_forgets 21 = .ok (.invokestatic 75, 3) := by decide +kernel
theorem dX5_forgets_24 : decode cX5_forgets 24 = .ok (.ifCond .eq 15, 3) := by decide +kernel
theorem dX5_forgets_27 : decode cX5_forgets 27 = .ok (.iload_n 3, 1) := by decide +kernel
theorem dX5_forgets_28 : decode cX5_forgets 28 = .ok (.i2l, 1) := by decide +kernel
theorem dX5_forgets_29 : decode cX5_forgets 29 = .ok (.lconst 0, 1) := by decide +kernel
theorem dX5_forgets_30 : decode cX5_forgets 30 = .ok (.ldc2_w 233, 3) := by decide +kernel
theorem dX5_forgets_33 : decode cX5_forgets 33 = .ok (.invokestatic 75, 3) := by decide +kernel
theorem dX5_forgets_36 : decode cX5_forgets 36 = .ok (.ifCond .ne 6, 3) := by decide +kernel
theorem dX5_forgets_39 : decode cX5_forgets 39 = .ok (.bipush (-2), 2) := by decide +kernel
theorem dX5_forgets_41 : decode cX5_forgets 41 = .ok (.ireturn, 1) := by decide +kernel
theorem dX5_forgets_42 : decode cX5_forgets 42 = .ok (.iconst 0, 1) := by decide +kernel
theorem dX5_forgets_43 : decode cX5_forgets 43 = .ok (.istore 5, 2) := by decide +kernel
theorem dX5_forgets_45 : decode cX5_forgets 45 = .ok (.iconst 0, 1) := by decide +kernel
theorem dX5_forgets_46 : decode cX5_forgets 46 = .ok (.istore 6, 2) := by decide +kernel
theorem dX5_forgets_48 : decode cX5_forgets 48 = .ok (.iload 6, 2) := by decide +kernel
theorem dX5_forgets_50 : decode cX5_forgets 50 = .ok (.iconst 1, 1) := by decide +kernel
theorem dX5_forgets_51 : decode cX5_forgets 51 = .ok (.aload_n 0, 1) := by decide +kernel
theorem dX5_forgets_52 : decode cX5_forgets 52 = .ok (.getfield 72, 3) := by decide +kernel
theorem dX5_forgets_55 : decode cX5_forgets 55 = .ok (.ishl, 1) := by decide +kernel
theorem dX5_forgets_56 : decode cX5_forgets 56 = .ok (.if_icmp .ge 57, 3) := by decide +kernel
theorem dX5_forgets_59 : decode cX5_forgets 59 = .ok (.iload 6, 2) := by decide +kernel
theorem dX5_forgets_61 : decode cX5_forgets 61 = .ok (.invokestatic 161, 3) := by decide +kernel
theorem dX5_forgets_64 : decode cX5_forgets 64 = .ok (.istore 7, 2) := by decide +kernel
theorem dX5_forgets_66 : decode cX5_forgets 66 = .ok (.iload 5, 2) := by decide +kernel
theorem dX5_forgets_68 : decode cX5_forgets 68 = .ok (.aload_n 0, 1) := by decide +kernel
theorem dX5_forgets_69 : decode cX5_forgets 69 = .ok (.iload_n 1, 1) := by decide +kernel
theorem dX5_forgets_70 : decode cX5_forgets 70 = .ok (.iload 6, 2) := by decide +kernel
theorem dX5_forgets_72 : decode cX5_forgets 72 = .ok (.invokevirtual 235, 3) := by decide +kernel
theorem dX5_forgets_75 : decode cX5_forgets 75 = .ok (.iload_n 2, 1) := by decide +kernel
theorem dX5_forgets_76 : decode cX5_forgets 76 = .ok (.if_icmp .lt 27, 3) := by decide +kernel
theorem dX5_forgets_79 : decode cX5_forgets 79 = .ok (.iload_n 3, 1) := by decide +kernel
theorem dX5_forgets_80 : decode cX5_forgets 80 = .ok (.iload 7, 2) := by decide +kernel
theorem dX5_forgets_82 : decode cX5_forgets 82 = .ok (.invokestatic 189, 3) := by decide +kernel
theorem dX5_forgets_85 : decode cX5_forgets 85 = .ok (.bipush 10, 2) := by decide +kernel
theorem dX5_forgets_87 : decode cX5_forgets 87 = .ok (.iload_n 3, 1) := by decide +kernel
theorem dX5_forgets_88 : decode cX5_forgets 88 = .ok (.isub, 1) := by decide +kernel
theorem dX5_forgets_89 : decode cX5_forgets 89 = .ok (.aload_n 0, 1) := by decide +kernel
theorem dX5_forgets_90 : decode cX5_forgets 90 = .ok (.getfield 72, 3) := by decide +kernel
theorem dX5_forgets_93 : decode cX5_forgets 93 = .ok (.iload 7, 2) := by decide +kernel
theorem dX5_forgets_95 : decode cX5_forgets 95 = .ok (.isub, 1) := by decide +kernel
theorem dX5_forgets_96 : decode cX5_forgets 96 = .ok (.invokestatic 189, 3) := by decide +kernel
theorem dX5_forgets_99 : decode cX5_forgets 99 = .ok (.imul, 1) := by decide +kernel
theorem dX5_forgets_100 : decode cX5_forgets 100 = .ok (.goto 4, 3) := by decide +kernel
theorem dX5_forgets_103 : decode cX5_forgets 103 = .ok (.iconst 0, 1) := by decide +kernel
theorem dX5_forgets_104 : decode cX5_forgets 104 = .ok (.iadd, 1) := by decide +kernel
theorem dX5_forgets_105 : decode cX5_forgets 105 = .ok (.istore 5, 2) := by decide +kernel
theorem dX5_forgets_107 : decode cX5_forgets 107 = .ok (.iinc 6 1, 3) := by decide +kernel
theorem dX5_forgets_110 : decode cX5_forgets 110 = .ok (.goto (-62), 3) := by decide +kernel
theorem dX5_forgets_113 : decode cX5_forgets 113 = .ok (.iload 5, 2) := by decide +kernel
theorem dX5_forgets_115 : decode cX5_forgets 115 = .ok (.bipush 10, 2) := by decide +kernel
theorem dX5_forgets_117 : decode cX5_forgets 117 = .ok (.aload_n 0, 1) := by decide +kernel
theorem dX5_forgets_118 : decode cX5_forgets 118 = .ok (.getfield 72, 3) := by decide +kernel
theorem dX5_forgets_121 : decode cX5_forgets 121 = .ok (.invokestatic 189, 3) := by decide +kernel
theorem dX5_forgets_124 : decode cX5_forgets 124 = .ok (.iload 4, 2) := by decide +kernel
theorem dX5_forgets_126 : decode cX5_forgets 126 = .ok (.invokestatic 204, 3) := by decide +kernel
theorem dX5_forgets_129 : decode cX5_forgets 129 = .ok (.ireturn, 1) := by decide +kernel
theorem dX5_seed_0 : decode cX5_seed 0 = .ok (.aload_n 0, 1) := by decide +kernel
theorem dX5_seed_1 : decode cX5_seed 1 = .ok (.iconst 0, 1) := by decide +kernel
theorem dX5_seed_2 : decode cX5_seed 2 = .ok (.putfield 68, 3) := by decide +kernel
theorem dX5_seed_5 : decode cX5_seed 5 = .ok (.aload_n 0, 1) := by decide +kernel
theorem dX5_seed_6 : decode cX5_seed 6 = .ok (.getfield 238, 3) := by decide +kernel
theorem dX5_seed_9 : decode cX5_seed 9 = .ok (.lstore_n 3, 1) := by decide +kernel
theorem dX5_seed_10 : decode cX5_seed 10 = .ok (.aload_n 0, 1) := by decide +kernel
theorem dX5_seed_11 : decode cX5_seed 11 = .ok (.lload_n 1, 1) := by decide +kernel
theorem dX5_seed_12 : decode cX5_seed 12 = .ok (.putfield 238, 3) := by decide +kernel
theorem dX5_seed_15 : decode cX5_seed 15 = .ok (.lload_n 3, 1) := by decide +kernel
theorem dX5_seed_16 : decode cX5_seed 16 = .ok (.lreturn, 1) := by decide +kernel
theorem dX5_years_0 : decode cX5_years 0 = .ok (.aload_n 0, 1) := by decide +kernel
theorem dX5_years_1 : decode cX5_years 1 = .ok (.iconst 0, 1) := by decide +kernel
theorem dX5_years_2 : decode cX5_years 2 = .ok (.putfield 68, 3) := by decide +kernel
theorem dX5_years_5 : decode cX5_years 5 = .ok (.iload_n 1, 1) := by decide +kernel
theorem dX5_years_6 : decode cX5_years 6 = .ok (.i2l, 1) := by decide +kernel
theorem dX5_years_7 : decode cX5_years 7 = .ok (.lconst 1, 1) := by decide +kernel
theorem dX5_years_8 : decode cX5_years 8 = .ok (.ldc2_w 242, 3) := by decide +kernel
theorem dX5_years_11 : decode cX5_years 11 = .ok (.invokestatic 75, 3) := by decide +kernel
theorem dX5_years_14 : decode cX5_years 14 = .ok (.ifCond .ne 6, 3) := by decide +kernel
theorem dX5_years_17 : decode cX5_years 17 = .ok (.bipush (-2), 2) := by decide +kernel
theorem dX5_years_19 : decode cX5_years 19 = .ok (.ireturn, 1) := by decide +kernel
theorem dX5_years_20 : decode cX5_years 20 = .ok (.aload_n 0, 1) := by decide +kernel
theorem dX5_years_21 : decode cX5_years 21 = .ok (.invokevirtual 175, 3) := by decide +kernel
theorem dX5_years_24 : decode cX5_years 24 = .ok (.iconst 0, 1) := by decide +kernel
theorem dX5_years_25 : decode cX5_years 25 = .ok (.istore_n 2, 1) := by decide +kernel
theorem dX5_years_26 : decode cX5_years 26 = .ok (.iload_n 2, 1) := by decide +kernel
theorem dX5_years_27 : decode cX5_years 27 = .ok (.iload_n 1, 1) := by decide +kernel
theorem dX5_years_28 : decode cX5_years 28 = .ok (.if_icmp .ge 129, 3) := by decide +kernel
theorem dX5_years_31 : decode cX5_years 31 = .ok (.aload_n 0, 1) := by decide +kernel
theorem dX5_years_32 : decode cX5_years 32 = .ok (.aload_n 0, 1) := by decide +kernel
theorem dX5_years_33 : decode cX5_years 33 = .ok (.getfield 238, 3) := by decide +kernel
theorem dX5_years_36 : decode cX5_years 36 = .ok (.ldc2_w 244, 3) := by decide +kernel
theorem dX5_years_39 : decode cX5_years 39 = .ok (.lmul, 1) := by decide +kernel
theorem dX5_years_40 : decode cX5_years 40 = .ok (.ldc2_w 246, 3) := by decide +kernel
theorem dX5_years_43 : decode cX5_years 43 = .ok (.ladd, 1) := by decide +kernel
theorem dX5_years_44 : decode cX5_years 44 = .ok (.putfield 238, 3) := by decide +kernel
theorem dX5_years_47 : decode cX5_years 47 = .ok (.aload_n 0, 1) := by decide +kernel
theorem dX5_years_48 : decode cX5_years 48 = .ok (.getfield 238, 3) := by decide +kernel
theorem dX5_years_51 : decode cX5_years 51 = .ok (.bipush 33, 2) := by decide +kernel
theorem dX5_years_53 : decode cX5_years 53 = .ok (.lushr, 1) := by decide +kernel
theorem dX5_years_54 : decode cX5_years 54 = .ok (.ldc2_w 248, 3) := by decide +kernel
theorem dX5_years_57 : decode cX5_years 57 = .ok (.lrem, 1) := by decide +kernel
theorem dX5_years_58 : decode cX5_years 58 = .ok (.l2i, 1) := by decide +kernel
theorem dX5_years_59 : decode cX5_years 59 = .ok (.istore_n 3, 1) := by decide +kernel
theorem dX5_years_60 : decode cX5_years 60 = .ok (.iload_n 3, 1) := by decide +kernel
theorem dX5_years_61 : decode cX5_years 61 = .ok (.bipush 10, 2) := by decide +kernel
theorem dX5_years_63 : decode cX5_years 63 = .ok (.if_icmp .ge 52, 3) := by decide +kernel
theorem dX5_years_66 : decode cX5_years 66 = .ok (.aload_n 0, 1) := by decide +kernel
theorem dX5_years_67 : decode cX5_years 67 = .ok (.iload_n 3, 1) := by decide +kernel
theorem dX5_years_68 : decode cX5_years 68 = .ok (.iconst 2, 1) := by decide +kernel
theorem dX5_years_69 : decode cX5_years 69 = .ok (.idiv, 1) := by decide +kernel
theorem dX5_years_70 : decode cX5_years 70 = .ok (.invokevirtual 151, 3) := by decide +kernel
theorem dX5_years_73 : decode cX5_years 73 = .ok (.ifCond .ne 42, 3) := by decide +kernel
theorem dX5_years_76 : decode cX5_years 76 = .ok (.aload_n 0, 1) := by decide +kernel
theorem dX5_years_77 : decode cX5_years 77 = .ok (.getfield 34, 3) := by decide +kernel
theorem dX5_years_80 : decode cX5_years 80 = .ok (.iload_n 3, 1) := by decide +kernel
theorem dX5_years_81 : decode cX5_years 81 = .ok (.iconst 2, 1) := by decide +kernel
theorem dX5_years_82 : decode cX5_years 82 = .ok (.idiv, 1) := by decide +kernel
theorem dX5_years_83 : decode cX5_years 83 = .ok (.iload_n 3, 1) := by decide +kernel
theorem dX5_years_84 : decode cX5_years 84 = .ok (.iconst 2, 1) := by decide +kernel
theorem dX5_years_85 : decode cX5_years 85 = .ok (.irem, 1) := by decide +kernel
theorem dX5_years_86 : decode cX5_years 86 = .ok (.invokestatic 119, 3) := by decide +kernel
theorem dX5_years_89 : decode cX5_years 89 = .ok (.bipush (-9), 2) := by decide +kernel
theorem dX5_years_91 : decode cX5_years 91 = .ok (.if_icmp .eq 24, 3) := by decide +kernel
theorem dX5_years_94 : decode cX5_years 94 = .ok (.aload_n 0, 1) := by decide +kernel
theorem dX5_years_95 : decode cX5_years 95 = .ok (.aload_n 0, 1) := by decide +kernel
theorem dX5_years_96 : decode cX5_years 96 = .ok (.getfield 34, 3) := by decide +kernel
theorem dX5_years_99 : decode cX5_years 99 = .ok (.iload_n 3, 1) := by decide +kernel
theorem dX5_years_100 : decode cX5_years 100 = .ok (.iconst 2, 1) := by decide +kernel
theorem dX5_years_101 : decode cX5_years 101 = .ok (.idiv, 1) := by decide +kernel
theorem dX5_years_102 : decode cX5_years 102 = .ok (.iload_n 3, 1) := by decide +kernel
theorem dX5_years_103 : decode cX5_years 103 = .ok (.iconst 2, 1) := by decide +kernel
theorem dX5_years_104 : decode cX5_years 104 = .ok (.irem, 1) := by decide +kernel
theorem dX5_years_105 : decode cX5_years 105 = .ok (.invokevirtual 164, 3) := by decide +kernel
theorem dX5_years_108 : decode cX5_years 108 = .ok (.ifCond .ne 7, 3) := by decide +kernel
theorem dX5_years_111 : decode cX5_years 111 = .ok (.iconst 1, 1) := by decide +kernel
theorem dX5_years_112 : decode cX5_years 112 = .ok (.goto 4, 3) := by decide +kernel
theorem dX5_years_115 : decode cX5_years 115 = .ok (.iconst 0, 1) := by decide +kernel
theorem dX5_years_116 : decode cX5_years 116 = .ok (.istore 4, 2) := by decide +kernel
theorem dX5_years_118 : decode cX5_years 118 = .ok (.iload 4, 2) := by decide +kernel
theorem dX5_years_120 : decode cX5_years 120 = .ok (.ifCond .eq 20, 3) := by decide +kernel
theorem dX5_years_123 : decode cX5_years 123 = .ok (.aload_n 0, 1) := by decide +kernel
theorem dX5_years_124 : decode cX5_years 124 = .ok (.aload_n 0, 1) := by decide +kernel
theorem dX5_years_125 : decode cX5_years 125 = .ok (.getfield 34, 3) := by decide +kernel
theorem dX5_years_128 : decode cX5_years 128 = .ok (.iload_n 3, 1) := by decide +kernel
theorem dX5_years_129 : decode cX5_years 129 = .ok (.iconst 2, 1) := by decide +kernel
theorem dX5_years_130 : decode cX5_years 130 = .ok (.idiv, 1) := by decide +kernel
theorem dX5_years_131 : decode cX5_years 131 = .ok (.iload_n 3, 1) := by decide +kernel
theorem dX5_years_132 : decode cX5_years 132 = .ok (.iconst 2, 1) := by decide +kernel
theorem dX5_years_133 : decode cX5_years 133 = .ok (.irem, 1) := by decide +kernel
theorem dX5_years_134 : decode cX5_years 134 = .ok (.invokevirtual 171, 3) := by decide +kernel
theorem dX5_years_137 : decode cX5_years 137 = .ok (.goto 14, 3) := by decide +kernel
theorem dX5_years_140 : decode cX5_years 140 = .ok (.aload_n 0, 1) := by decide +kernel
theorem dX5_years_141 : decode cX5_years 141 = .ok (.getfield 34, 3) := by decide +kernel
theorem dX5_years_144 : decode cX5_years 144 = .ok (.bipush 15, 2) := by decide +kernel
theorem dX5_years_146 : decode cX5_years 146 = .ok (.dup2, 1) := by decide +kernel
theorem dX5_years_147 : decode cX5_years 147 = .ok (.iaload, 1) := by decide +kernel
theorem dX5_years_148 : decode cX5_years 148 = .ok (.iconst 1, 1) := by decide +kernel
theorem dX5_years_149 : decode cX5_years 149 = .ok (.iadd, 1) := by decide +kernel
theorem dX5_years_150 : decode cX5_years 150 = .ok (.iastore, 1) := by decide +kernel
theorem dX5_years_151 : decode cX5_years 151 = .ok (.iinc 2 1, 3) := by decide +kernel
theorem dX5_years_154 : decode cX5_years 154 = .ok (.goto (-128), 3) := by decide +kernel
theorem dX5_years_157 : decode cX5_years 157 = .ok (.aload_n 0, 1) := by decide +kernel
theorem dX5_years_158 : decode cX5_years 158 = .ok (.getfield 34, 3) := by decide +kernel
theorem dX5_years_161 : decode cX5_years 161 = .ok (.bipush 16, 2) := by decide +kernel
theorem dX5_years_163 : decode cX5_years 163 = .ok (.iaload, 1) := by decide +kernel
theorem dX5_years_164 : decode cX5_years 164 = .ok (.aload_n 0, 1) := by decide +kernel
theorem dX5_years_165 : decode cX5_years 165 = .ok (.getfield 31, 3) := by decide +kernel
theorem dX5_years_168 : decode cX5_years 168 = .ok (.bipush 16, 2) := by decide +kernel
theorem dX5_years_170 : decode cX5_years 170 = .ok (.iaload, 1) := by decide +kernel
theorem dX5_years_171 : decode cX5_years 171 = .ok (.isub, 1) := by decide +kernel
theorem dX5_years_172 : decode cX5_years 172 = .ok (.ireturn, 1) := by decide +kernel
theorem dX5_keep_0 : decode cX5_keep 0 = .ok (.aload_n 0, 1) := by decide +kernel
theorem dX5_keep_1 : decode cX5_keep 1 = .ok (.iconst 0, 1) := by decide +kernel
theorem dX5_keep_2 : decode cX5_keep 2 = .ok (.putfield 68, 3) := by decide +kernel
theorem dX5_keep_5 : decode cX5_keep 5 = .ok (.iload_n 1, 1) := by decide +kernel
theorem dX5_keep_6 : decode cX5_keep 6 = .ok (.i2l, 1) := by decide +kernel
theorem dX5_keep_7 : decode cX5_keep 7 = .ok (.lconst 0, 1) := by decide +kernel
theorem dX5_keep_8 : decode cX5_keep 8 = .ok (.lconst 1, 1) := by decide +kernel
theorem dX5_keep_9 : decode cX5_keep 9 = .ok (.invokestatic 75, 3) := by decide +kernel
theorem dX5_keep_12 : decode cX5_keep 12 = .ok (.ifCond .ne 5, 3) := by decide +kernel
theorem dX5_keep_15 : decode cX5_keep 15 = .ok (.iconst (-1), 1) := by decide +kernel
theorem dX5_keep_16 : decode cX5_keep 16 = .ok (.ireturn, 1) := by decide +kernel
theorem dX5_keep_17 : decode cX5_keep 17 = .ok (.aload_n 0, 1) := by decide +kernel
theorem dX5_keep_18 : decode cX5_keep 18 = .ok (.getfield 43, 3) := by decide +kernel
theorem dX5_keep_21 : decode cX5_keep 21 = .ok (.iload_n 1, 1) := by decide +kernel
theorem dX5_keep_22 : decode cX5_keep 22 = .ok (.iconst 1, 1) := by decide +kernel
theorem dX5_keep_23 : decode cX5_keep 23 = .ok (.bastore, 1) := by decide +kernel
theorem dX5_keep_24 : decode cX5_keep 24 = .ok (.iconst 0, 1) := by decide +kernel
theorem dX5_keep_25 : decode cX5_keep 25 = .ok (.istore_n 2, 1) := by decide +kernel
theorem dX5_keep_26 : decode cX5_keep 26 = .ok (.iload_n 2, 1) := by decide +kernel
theorem dX5_keep_27 : decode cX5_keep 27 = .ok (.bipush 17, 2) := by decide +kernel
theorem dX5_keep_29 : decode cX5_keep 29 = .ok (.if_icmp .ge 26, 3) := by decide +kernel
theorem dX5_keep_32 : decode cX5_keep 32 = .ok (.aload_n 0, 1) := by decide +kernel
theorem dX5_keep_33 : decode cX5_keep 33 = .ok (.getfield 40, 3) := by decide +kernel
theorem dX5_keep_36 : decode cX5_keep 36 = .ok (.bipush 17, 2) := by decide +kernel
theorem dX5_keep_38 : decode cX5_keep 38 = .ok (.iload_n 1, 1) := by decide +kernel
theorem dX5_keep_39 : decode cX5_keep 39 = .ok (.imul, 1) := by decide +kernel
theorem dX5_keep_40 : decode cX5_keep 40 = .ok (.iload_n 2, 1) := by decide +kernel
theorem dX5_keep_41 : decode cX5_keep 41 = .ok (.iadd, 1) := by decide +kernel
theorem dX5_keep_42 : decode cX5_keep 42 = .ok (.aload_n 0, 1) := by decide +kernel
theorem dX5_keep_43 : decode cX5_keep 43 = .ok (.getfield 31, 3) := by decide +kernel
theorem dX5_keep_46 : decode cX5_keep 46 = .ok (.iload_n 2, 1) := by decide +kernel
theorem dX5_keep_47 : decode cX5_keep 47 = .ok (.iaload, 1) := by decide +kernel
theorem dX5_keep_48 : decode cX5_keep 48 = .ok (.iastore, 1) := by decide +kernel
theorem dX5_keep_49 : decode cX5_keep 49 = .ok (.iinc 2 1, 3) := by decide +kernel
theorem dX5_keep_52 : decode cX5_keep 52 = .ok (.goto (-26), 3) := by decide +kernel
theorem dX5_keep_55 : decode cX5_keep 55 = .ok (.aload_n 0, 1) := by decide +kernel
theorem dX5_keep_56 : decode cX5_keep 56 = .ok (.getfield 31, 3) := by decide +kernel
theorem dX5_keep_59 : decode cX5_keep 59 = .ok (.bipush 15, 2) := by decide +kernel
theorem dX5_keep_61 : decode cX5_keep 61 = .ok (.iaload, 1) := by decide +kernel
theorem dX5_keep_62 : decode cX5_keep 62 = .ok (.ireturn, 1) := by decide +kernel
theorem dX5_again_0 : decode cX5_again 0 = .ok (.aload_n 0, 1) := by decide +kernel
theorem dX5_again_1 : decode cX5_again 1 = .ok (.iconst 0, 1) := by decide +kernel
theorem dX5_again_2 : decode cX5_again 2 = .ok (.putfield 68, 3) := by decide +kernel
theorem dX5_again_5 : decode cX5_again 5 = .ok (.iload_n 1, 1) := by decide +kernel
theorem dX5_again_6 : decode cX5_again 6 = .ok (.i2l, 1) := by decide +kernel
theorem dX5_again_7 : decode cX5_again 7 = .ok (.lconst 0, 1) := by decide +kernel
theorem dX5_again_8 : decode cX5_again 8 = .ok (.lconst 1, 1) := by decide +kernel
theorem dX5_again_9 : decode cX5_again 9 = .ok (.invokestatic 75, 3) := by decide +kernel
theorem dX5_again_12 : decode cX5_again 12 = .ok (.ifCond .ne 5, 3) := by decide +kernel
theorem dX5_again_15 : decode cX5_again 15 = .ok (.iconst (-1), 1) := by decide +kernel
theorem dX5_again_16 : decode cX5_again 16 = .ok (.ireturn, 1) := by decide +kernel
theorem dX5_again_17 : decode cX5_again 17 = .ok (.aload_n 0, 1) := by decide +kernel
theorem dX5_again_18 : decode cX5_again 18 = .ok (.getfield 43, 3) := by decide +kernel
theorem dX5_again_21 : decode cX5_again 21 = .ok (.iload_n 1, 1) := by decide +kernel
theorem dX5_again_22 : decode cX5_again 22 = .ok (.baload, 1) := by decide +kernel
theorem dX5_again_23 : decode cX5_again 23 = .ok (.ifCond .ne 6, 3) := by decide +kernel
theorem dX5_again_26 : decode cX5_again 26 = .ok (.bipush (-3), 2) := by decide +kernel
theorem dX5_again_28 : decode cX5_again 28 = .ok (.ireturn, 1) := by decide +kernel
theorem dX5_again_29 : decode cX5_again 29 = .ok (.iconst 0, 1) := by decide +kernel
theorem dX5_again_30 : decode cX5_again 30 = .ok (.istore_n 2, 1) := by decide +kernel
theorem dX5_again_31 : decode cX5_again 31 = .ok (.iload_n 2, 1) := by decide +kernel
theorem dX5_again_32 : decode cX5_again 32 = .ok (.bipush 17, 2) := by decide +kernel
theorem dX5_again_34 : decode cX5_again 34 = .ok (.if_icmp .ge 26, 3) := by decide +kernel
theorem dX5_again_37 : decode cX5_again 37 = .ok (.aload_n 0, 1) := by decide +kernel
theorem dX5_again_38 : decode cX5_again 38 = .ok (.getfield 31, 3) := by decide +kernel
theorem dX5_again_41 : decode cX5_again 41 = .ok (.iload_n 2, 1) := by decide +kernel
theorem dX5_again_42 : decode cX5_again 42 = .ok (.aload_n 0, 1) := by decide +kernel
theorem dX5_again_43 : decode cX5_again 43 = .ok (.getfield 40, 3) := by decide +kernel
theorem dX5_again_46 : decode cX5_again 46 = .ok (.bipush 17, 2) := by decide +kernel
theorem dX5_again_48 : decode cX5_again 48 = .ok (.iload_n 1, 1) := by decide +kernel
theorem dX5_again_49 : decode cX5_again 49 = .ok (.imul, 1) := by decide +kernel
theorem dX5_again_50 : decode cX5_again 50 = .ok (.iload_n 2, 1) := by decide +kernel
theorem dX5_again_51 : decode cX5_again 51 = .ok (.iadd, 1) := by decide +kernel
theorem dX5_again_52 : decode cX5_again 52 = .ok (.iaload, 1) := by decide +kernel
theorem dX5_again_53 : decode cX5_again 53 = .ok (.iastore, 1) := by decide +kernel
theorem dX5_again_54 : decode cX5_again 54 = .ok (.iinc 2 1, 3) := by decide +kernel
theorem dX5_again_57 : decode cX5_again 57 = .ok (.goto (-26), 3) := by decide +kernel
theorem dX5_again_60 : decode cX5_again 60 = .ok (.aload_n 0, 1) := by decide +kernel
theorem dX5_again_61 : decode cX5_again 61 = .ok (.iconst 0, 1) := by decide +kernel
theorem dX5_again_62 : decode cX5_again 62 = .ok (.putfield 114, 3) := by decide +kernel
theorem dX5_again_65 : decode cX5_again 65 = .ok (.aload_n 0, 1) := by decide +kernel
theorem dX5_again_66 : decode cX5_again 66 = .ok (.getfield 31, 3) := by decide +kernel
theorem dX5_again_69 : decode cX5_again 69 = .ok (.bipush 15, 2) := by decide +kernel
theorem dX5_again_71 : decode cX5_again 71 = .ok (.iaload, 1) := by decide +kernel
theorem dX5_again_72 : decode cX5_again 72 = .ok (.ireturn, 1) := by decide +kernel
theorem dJ6_bitCount_0f7a4_0 : decode cJ6_bitCount_0f7a4 0 = .ok (.iload_n 0, 1) := by decide +kernel
theorem dJ6_bitCount_0f7a4_1 : decode cJ6_bitCount_0f7a4 1 = .ok (.iload_n 0, 1) := by decide +kernel
theorem dJ6_bitCount_0f7a4_2 : decode cJ6_bitCount_0f7a4 2 = .ok (.iconst 1, 1) := by decide +kernel
theorem dJ6_bitCount_0f7a4_3 : decode cJ6_bitCount_0f7a4 3 = .ok (.iushr, 1) := by decide +kernel
theorem dJ6_bitCount_0f7a4_4 : decode cJ6_bitCount_0f7a4 4 = .ok (.ldc_w 265, 3) := by decide +kernel
theorem dJ6_bitCount_0f7a4_7 : decode cJ6_bitCount_0f7a4 7 = .ok (.iand, 1) := by decide +kernel
theorem dJ6_bitCount_0f7a4_8 : decode cJ6_bitCount_0f7a4 8 = .ok (.isub, 1) := by decide +kernel
theorem dJ6_bitCount_0f7a4_9 : decode cJ6_bitCount_0f7a4 9 = .ok (.istore_n 0, 1) := by decide +kernel
theorem dJ6_bitCount_0f7a4_10 : decode cJ6_bitCount_0f7a4 10 = .ok (.iload_n 0, 1) := by decide +kernel
theorem dJ6_bitCount_0f7a4_11 : decode cJ6_bitCount_0f7a4 11 = .ok (.ldc_w 266, 3) := by decide +kernel
theorem dJ6_bitCount_0f7a4_14 : decode cJ6_bitCount_0f7a4 14 = .ok (.iand, 1) := by decide +kernel
theorem dJ6_bitCount_0f7a4_15 : decode cJ6_bitCount_0f7a4 15 = .ok (.iload_n 0, 1) := by decide +kernel
theorem dJ6_bitCount_0f7a4_16 : decode cJ6_bitCount_0f7a4 16 = .ok (.iconst 2, 1) := by decide +kernel
theorem dJ6_bitCount_0f7a4_17 : decode cJ6_bitCount_0f7a4 17 = .ok (.iushr, 1) := by decide +kernel
theorem dJ6_bitCount_0f7a4_18 : decode cJ6_bitCount_0f7a4 18 = .ok (.ldc_w 266, 3) := by decide +kernel
theorem dJ6_bitCount_0f7a4_21 : decode cJ6_bitCount_0f7a4 21 = .ok (.iand, 1) := by decide +kernel
theorem dJ6_bitCount_0f7a4_22 : decode cJ6_bitCount_0f7a4 22 = .ok (.iadd, 1) := by decide +kernel
theorem dJ6_bitCount_0f7a4_23 : decode cJ6_bitCount_0f7a4 23 = .ok (.istore_n 0, 1) := by decide +kernel
theorem dJ6_bitCount_0f7a4_24 : decode cJ6_bitCount_0f7a4 24 = .ok (.iload_n 0, 1) := by decide +kernel
theorem dJ6_bitCount_0f7a4_25 : decode cJ6_bitCount_0f7a4 25 = .ok (.iload_n 0, 1) := by decide +kernel
theorem dJ6_bitCount_0f7a4_26 : decode cJ6_bitCount_0f7a4 26 = .ok (.iconst 4, 1) := by decide +kernel
theorem dJ6_bitCount_0f7a4_27 : decode cJ6_bitCount_0f7a4 27 = .ok (.iushr, 1) := by decide +kernel
theorem dJ6_bitCount_0f7a4_28 : decode cJ6_bitCount_0f7a4 28 = .ok (.iadd, 1) := by decide +kernel
theorem dJ6_bitCount_0f7a4_29 : decode cJ6_bitCount_0f7a4 29 = .ok (.ldc_w 267, 3) := by decide +kernel
theorem dJ6_bitCount_0f7a4_32 : decode cJ6_bitCount_0f7a4 32 = .ok (.iand, 1) := by decide +kernel
theorem dJ6_bitCount_0f7a4_33 : decode cJ6_bitCount_0f7a4 33 = .ok (.istore_n 0, 1) := by decide +kernel
theorem dJ6_bitCount_0f7a4_34 : decode cJ6_bitCount_0f7a4 34 = .ok (.iload_n 0, 1) := by decide +kernel
theorem dJ6_bitCount_0f7a4_35 : decode cJ6_bitCount_0f7a4 35 = .ok (.iload_n 0, 1) := by decide +kernel
theorem dJ6_bitCount_0f7a4_36 : decode cJ6_bitCount_0f7a4 36 = .ok (.bipush 8, 2) := by decide +kernel
theorem dJ6_bitCount_0f7a4_38 : decode cJ6_bitCount_0f7a4 38 = .ok (.iushr, 1) := by decide +kernel
theorem dJ6_bitCount_0f7a4_39 : decode cJ6_bitCount_0f7a4 39 = .ok (.iadd, 1) := by decide +kernel
theorem dJ6_bitCount_0f7a4_40 : decode cJ6_bitCount_0f7a4 40 = .ok (.istore_n 0, 1) := by decide +kernel
theorem dJ6_bitCount_0f7a4_41 : decode cJ6_bitCount_0f7a4 41 = .ok (.iload_n 0, 1) := by decide +kernel
theorem dJ6_bitCount_0f7a4_42 : decode cJ6_bitCount_0f7a4 42 = .ok (.iload_n 0, 1) := by decide +kernel
theorem dJ6_bitCount_0f7a4_43 : decode cJ6_bitCount_0f7a4 43 = .ok (.bipush 16, 2) := by decide +kernel
theorem dJ6_bitCount_0f7a4_45 : decode cJ6_bitCount_0f7a4 45 = .ok (.iushr, 1) := by decide +kernel
theorem dJ6_bitCount_0f7a4_46 : decode cJ6_bitCount_0f7a4 46 = .ok (.iadd, 1) := by decide +kernel
theorem dJ6_bitCount_0f7a4_47 : decode cJ6_bitCount_0f7a4 47 = .ok (.istore_n 0, 1) := by decide +kernel
theorem dJ6_bitCount_0f7a4_48 : decode cJ6_bitCount_0f7a4 48 = .ok (.iload_n 0, 1) := by decide +kernel
theorem dJ6_bitCount_0f7a4_49 : decode cJ6_bitCount_0f7a4 49 = .ok (.bipush 63, 2) := by decide +kernel
theorem dJ6_bitCount_0f7a4_51 : decode cJ6_bitCount_0f7a4 51 = .ok (.iand, 1) := by decide +kernel
theorem dJ6_bitCount_0f7a4_52 : decode cJ6_bitCount_0f7a4 52 = .ok (.ireturn, 1) := by decide +kernel

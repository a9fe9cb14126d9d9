theorem dX4_mulesThatKnow_29 : decode cX4_mulesThatKnow 29 = .ok (.iconst 1, 1) := by decide +kernel
theorem dX4_mulesThatKnow_30 : decode cX4_mulesThatKnow 30 = .ok (.iload_n 3, 1) := by decide +kernel
theorem dX4_mulesThatKnow_31 : decode cX4_mulesThatKnow 31 = .ok (.ishl, 1) := by decide +kernel
theorem dX4_mulesThatKnow_32 : decode cX4_mulesThatKnow 32 = .ok (.ior, 1) := by decide +kernel
theorem dX4_mulesThatKnow_33 : decode cX4_mulesThatKnow 33 = .ok (.istore_n 2, 1) := by decide +kernel
theorem dX4_mulesThatKnow_34 : decode cX4_mulesThatKnow 34 = .ok (.iinc 3 1, 3) := by decide +kernel
theorem dX4_mulesThatKnow_37 : decode cX4_mulesThatKnow 37 = .ok (.goto (-33), 3) := by decide +kernel
theorem dX4_mulesThatKnow_40 : decode cX4_mulesThatKnow 40 = .ok (.iload_n 2, 1) := by decide +kernel
theorem dX4_mulesThatKnow_41 : decode cX4_mulesThatKnow 41 = .ok (.ireturn, 1) := by decide +kernel
theorem dX4_stepRefusal_0 : decode cX4_stepRefusal 0 = .ok (.aload_n 0, 1) := by decide +kernel
theorem dX4_stepRefusal_1 : decode cX4_stepRefusal 1 = .ok (.iload_n 1, 1) := by decide +kernel
theorem dX4_stepRefusal_2 : decode cX4_stepRefusal 2 = .ok (.invokevirtual 113, 3) := by decide +kernel
theorem dX4_stepRefusal_5 : decode cX4_stepRefusal 5 = .ok (.ifCond .ne 5, 3) := by decide +kernel
theorem dX4_stepRefusal_8 : decode cX4_stepRefusal 8 = .ok (.iconst (-1), 1) := by decide +kernel
theorem dX4_stepRefusal_9 : decode cX4_stepRefusal 9 = .ok (.ireturn, 1) := by decide +kernel
theorem dX4_stepRefusal_10 : decode cX4_stepRefusal 10 = .ok (.iload_n 2, 1) := by decide +kernel
theorem dX4_stepRefusal_11 : decode cX4_stepRefusal 11 = .ok (.invokestatic 189, 3) := by decide +kernel
theorem dX4_stepRefusal_14 : decode cX4_stepRefusal 14 = .ok (.ifCond .ne 6, 3) := by decide +kernel
theorem dX4_stepRefusal_17 : decode cX4_stepRefusal 17 = .ok (.bipush (-2), 2) := by decide +kernel
theorem dX4_stepRefusal_19 : decode cX4_stepRefusal 19 = .ok (.ireturn, 1) := by decide +kernel
theorem dX4_stepRefusal_20 : decode cX4_stepRefusal 20 = .ok (.aload_n 0, 1) := by decide +kernel
theorem dX4_stepRefusal_21 : decode cX4_stepRefusal 21 = .ok (.getfield 34, 3) := by decide +kernel
theorem dX4_stepRefusal_24 : decode cX4_stepRefusal 24 = .ok (.getfield 116, 3) := by decide +kernel
theorem dX4_stepRefusal_27 : decode cX4_stepRefusal 27 = .ok (.iload_n 1, 1) := by decide +kernel
theorem dX4_stepRefusal_28 : decode cX4_stepRefusal 28 = .ok (.iaload, 1) := by decide +kernel
theorem dX4_stepRefusal_29 : decode cX4_stepRefusal 29 = .ok (.iload_n 2, 1) := by decide +kernel
theorem dX4_stepRefusal_30 : decode cX4_stepRefusal 30 = .ok (.invokestatic 240, 3) := by decide +kernel
theorem dX4_stepRefusal_33 : decode cX4_stepRefusal 33 = .ok (.invokestatic 165, 3) := by decide +kernel
theorem dX4_stepRefusal_36 : decode cX4_stepRefusal 36 = .ok (.ifCond .eq 7, 3) := by decide +kernel
theorem dX4_stepRefusal_39 : decode cX4_stepRefusal 39 = .ok (.iconst 0, 1) := by decide +kernel
theorem dX4_stepRefusal_40 : decode cX4_stepRefusal 40 = .ok (.goto 5, 3) := by decide +kernel
theorem dX4_stepRefusal_43 : decode cX4_stepRefusal 43 = .ok (.bipush (-3), 2) := by decide +kernel
theorem dX4_stepRefusal_45 : decode cX4_stepRefusal 45 = .ok (.ireturn, 1) := by decide +kernel
theorem dX4_nextStone_0 : decode cX4_nextStone 0 = .ok (.iload_n 1, 1) := by decide +kernel
theorem dX4_nextStone_1 : decode cX4_nextStone 1 = .ok (.iconst 1, 1) := by decide +kernel
theorem dX4_nextStone_2 : decode cX4_nextStone 2 = .ok (.if_icmp .ne 9, 3) := by decide +kernel
theorem dX4_nextStone_5 : decode cX4_nextStone 5 = .ok (.iload_n 0, 1) := by decide +kernel
theorem dX4_nextStone_6 : decode cX4_nextStone 6 = .ok (.iconst 1, 1) := by decide +kernel
theorem dX4_nextStone_7 : decode cX4_nextStone 7 = .ok (.iadd, 1) := by decide +kernel
theorem dX4_nextStone_8 : decode cX4_nextStone 8 = .ok (.goto 6, 3) := by decide +kernel
theorem dX4_nextStone_11 : decode cX4_nextStone 11 = .ok (.iload_n 0, 1) := by decide +kernel
theorem dX4_nextStone_12 : decode cX4_nextStone 12 = .ok (.iconst 1, 1) := by decide +kernel
theorem dX4_nextStone_13 : decode cX4_nextStone 13 = .ok (.isub, 1) := by decide +kernel
theorem dX4_nextStone_14 : decode cX4_nextStone 14 = .ok (.ireturn, 1) := by decide +kernel
theorem dX4_forbidders_0 : decode cX4_forbidders 0 = .ok (.aload_n 0, 1) := by decide +kernel
theorem dX4_forbidders_1 : decode cX4_forbidders 1 = .ok (.iload_n 2, 1) := by decide +kernel
theorem dX4_forbidders_2 : decode cX4_forbidders 2 = .ok (.invokevirtual 113, 3) := by decide +kernel
theorem dX4_forbidders_5 : decode cX4_forbidders 5 = .ok (.ifCond .ne 5, 3) := by decide +kernel
theorem dX4_forbidders_8 : decode cX4_forbidders 8 = .ok (.iconst (-1), 1) := by decide +kernel
theorem dX4_forbidders_9 : decode cX4_forbidders 9 = .ok (.ireturn, 1) := by decide +kernel
theorem dX4_forbidders_10 : decode cX4_forbidders 10 = .ok (.aload_n 0, 1) := by decide +kernel
theorem dX4_forbidders_11 : decode cX4_forbidders 11 = .ok (.aload_n 1, 1) := by decide +kernel
theorem dX4_forbidders_12 : decode cX4_forbidders 12 = .ok (.iload_n 2, 1) := by decide +kernel
theorem dX4_forbidders_13 : decode cX4_forbidders 13 = .ok (.aload_n 1, 1) := by decide +kernel
theorem dX4_forbidders_14 : decode cX4_forbidders 14 = .ok (.getfield 116, 3) := by decide +kernel
theorem dX4_forbidders_17 : decode cX4_forbidders 17 = .ok (.iload_n 2, 1) := by decide +kernel
theorem dX4_forbidders_18 : decode cX4_forbidders 18 = .ok (.iaload, 1) := by decide +kernel
theorem dX4_forbidders_19 : decode cX4_forbidders 19 = .ok (.iload_n 3, 1) := by decide +kernel
theorem dX4_forbidders_20 : decode cX4_forbidders 20 = .ok (.aload_n 1, 1) := by decide +kernel
theorem dX4_forbidders_21 : decode cX4_forbidders 21 = .ok (.getfield 86, 3) := by decide +kernel
theorem dX4_forbidders_24 : decode cX4_forbidders 24 = .ok (.invokevirtual 243, 3) := by decide +kernel
theorem dX4_forbidders_27 : decode cX4_forbidders 27 = .ok (.ireturn, 1) := by decide +kernel
theorem dX4_forbiddersFrom_0 : decode cX4_forbiddersFrom 0 = .ok (.iload_n 3, 1) := by decide +kernel
theorem dX4_forbiddersFrom_1 : decode cX4_forbiddersFrom 1 = .ok (.iload 4, 2) := by decide +kernel
theorem dX4_forbiddersFrom_3 : decode cX4_forbiddersFrom 3 = .ok (.invokestatic 240, 3) := by decide +kernel
theorem dX4_forbiddersFrom_6 : decode cX4_forbiddersFrom 6 = .ok (.istore 6, 2) := by decide +kernel
theorem dX4_forbiddersFrom_8 : decode cX4_forbiddersFrom 8 = .ok (.aload_n 0, 1) := by decide +kernel
theorem dX4_forbiddersFrom_9 : decode cX4_forbiddersFrom 9 = .ok (.iload_n 2, 1) := by decide +kernel
theorem dX4_forbiddersFrom_10 : decode cX4_forbiddersFrom 10 = .ok (.invokevirtual 113, 3) := by decide +kernel
theorem dX4_forbiddersFrom_13 : decode cX4_forbiddersFrom 13 = .ok (.ifCond .eq 11, 3) := by decide +kernel
theorem dX4_forbiddersFrom_16 : decode cX4_forbiddersFrom 16 = .ok (.iload 6, 2) := by decide +kernel
theorem dX4_forbiddersFrom_18 : decode cX4_forbiddersFrom 18 = .ok (.invokestatic 165, 3) := by decide +kernel
theorem dX4_forbiddersFrom_21 : decode cX4_forbiddersFrom 21 = .ok (.ifCond .ne 5, 3) := by decide +kernel
theorem dX4_forbiddersFrom_24 : decode cX4_forbiddersFrom 24 = .ok (.iconst (-1), 1) := by decide +kernel
theorem dX4_forbiddersFrom_25 : decode cX4_forbiddersFrom 25 = .ok (.ireturn, 1) := by decide +kernel
theorem dX4_forbiddersFrom_26 : decode cX4_forbiddersFrom 26 = .ok (.aload_n 0, 1) := by decide +kernel
theorem dX4_forbiddersFrom_27 : decode cX4_forbiddersFrom 27 = .ok (.aload_n 1, 1) := by decide +kernel
theorem dX4_forbiddersFrom_28 : decode cX4_forbiddersFrom 28 = .ok (.iload_n 2, 1) := by decide +kernel
theorem dX4_forbiddersFrom_29 : decode cX4_forbiddersFrom 29 = .ok (.iload 6, 2) := by decide +kernel
theorem dX4_forbiddersFrom_31 : decode cX4_forbiddersFrom 31 = .ok (.invokevirtual 247, 3) := by decide +kernel
theorem dX4_forbiddersFrom_34 : decode cX4_forbiddersFrom 34 = .ok (.istore 7, 2) := by decide +kernel
theorem dX4_forbiddersFrom_36 : decode cX4_forbiddersFrom 36 = .ok (.iconst 0, 1) := by decide +kernel
theorem dX4_forbiddersFrom_37 : decode cX4_forbiddersFrom 37 = .ok (.istore 8, 2) := by decide +kernel
theorem dX4_forbiddersFrom_39 : decode cX4_forbiddersFrom 39 = .ok (.iconst 0, 1) := by decide +kernel
theorem dX4_forbiddersFrom_40 : decode cX4_forbiddersFrom 40 = .ok (.istore 9, 2) := by decide +kernel
theorem dX4_forbiddersFrom_42 : decode cX4_forbiddersFrom 42 = .ok (.iload 9, 2) := by decide +kernel
theorem dX4_forbiddersFrom_44 : decode cX4_forbiddersFrom 44 = .ok (.aload_n 0, 1) := by decide +kernel
theorem dX4_forbiddersFrom_45 : decode cX4_forbiddersFrom 45 = .ok (.getfield 19, 3) := by decide +kernel
theorem dX4_forbiddersFrom_48 : decode cX4_forbiddersFrom 48 = .ok (.getfield 83, 3) := by decide +kernel
theorem dX4_forbiddersFrom_51 : decode cX4_forbiddersFrom 51 = .ok (.if_icmp .ge 47, 3) := by decide +kernel
theorem dX4_forbiddersFrom_54 : decode cX4_forbiddersFrom 54 = .ok (.aload_n 0, 1) := by decide +kernel
theorem dX4_forbiddersFrom_55 : decode cX4_forbiddersFrom 55 = .ok (.getfield 19, 3) := by decide +kernel
theorem dX4_forbiddersFrom_58 : decode cX4_forbiddersFrom 58 = .ok (.iload 9, 2) := by decide +kernel
theorem dX4_forbiddersFrom_60 : decode cX4_forbiddersFrom 60 = .ok (.iload 6, 2) := by decide +kernel
theorem dX4_forbiddersFrom_62 : decode cX4_forbiddersFrom 62 = .ok (.aload_n 0, 1) := by decide +kernel
theorem dX4_forbiddersFrom_63 : decode cX4_forbiddersFrom 63 = .ok (.getfield 23, 3) := by decide +kernel
theorem dX4_forbiddersFrom_66 : decode cX4_forbiddersFrom 66 = .ok (.iload_n 2, 1) := by decide +kernel
theorem dX4_forbiddersFrom_67 : decode cX4_forbiddersFrom 67 = .ok (.iaload, 1) := by decide +kernel
theorem dX4_forbiddersFrom_68 : decode cX4_forbiddersFrom 68 = .ok (.iload 5, 2) := by decide +kernel
theorem dX4_forbiddersFrom_70 : decode cX4_forbiddersFrom 70 = .ok (.bipush 10, 2) := by decide +kernel
theorem dX4_forbiddersFrom_72 : decode cX4_forbiddersFrom 72 = .ok (.irem, 1) := by decide +kernel
theorem dX4_forbiddersFrom_73 : decode cX4_forbiddersFrom 73 = .ok (.iload 4, 2) := by decide +kernel
theorem dX4_forbiddersFrom_75 : decode cX4_forbiddersFrom 75 = .ok (.iload 7, 2) := by decide +kernel
theorem dX4_forbiddersFrom_77 : decode cX4_forbiddersFrom 77 = .ok (.invokevirtual 250, 3) := by decide +kernel
theorem dX4_forbiddersFrom_80 : decode cX4_forbiddersFrom 80 = .ok (.ifCond .eq 12, 3) := by decide +kernel
theorem dX4_forbiddersFrom_83 : decode cX4_forbiddersFrom 83 = .ok (.iload 8, 2) := by decide +kernel
theorem dX4_forbiddersFrom_85 : decode cX4_forbiddersFrom 85 = .ok (.iconst 1, 1) := by decide +kernel
theorem dX4_forbiddersFrom_86 : decode cX4_forbiddersFrom 86 = .ok (.iload 9, 2) := by decide +kernel
theorem dX4_forbiddersFrom_88 : decode cX4_forbiddersFrom 88 = .ok (.ishl, 1) := by decide +kernel
theorem dX4_forbiddersFrom_89 : decode cX4_forbiddersFrom 89 = .ok (.ior, 1) := by decide +kernel
theorem dX4_forbiddersFrom_90 : decode cX4_forbiddersFrom 90 = .ok (.istore 8, 2) := by decide +kernel
theorem dX4_forbiddersFrom_92 : decode cX4_forbiddersFrom 92 = .ok (.iinc 9 1, 3) := by decide +kernel
theorem dX4_forbiddersFrom_95 : decode cX4_forbiddersFrom 95 = .ok (.goto (-53), 3) := by decide +kernel
theorem dX4_forbiddersFrom_98 : decode cX4_forbiddersFrom 98 = .ok (.iload 8, 2) := by decide +kernel
theorem dX4_forbiddersFrom_100 : decode cX4_forbiddersFrom 100 = .ok (.ireturn, 1) := by decide +kernel
theorem dX4_othersFromNorthOf_0 : decode cX4_othersFromNorthOf 0 = .ok (.iconst 0, 1) := by decide +kernel
theorem dX4_othersFromNorthOf_1 : decode cX4_othersFromNorthOf 1 = .ok (.istore 4, 2) := by decide +kernel
theorem dX4_othersFromNorthOf_3 : decode cX4_othersFromNorthOf 3 = .ok (.iconst 0, 1) := by decide +kernel
theorem dX4_othersFromNorthOf_4 : decode cX4_othersFromNorthOf 4 = .ok (.istore 5, 2) := by decide +kernel
theorem dX4_othersFromNorthOf_6 : decode cX4_othersFromNorthOf 6 = .ok (.iload 5, 2) := by decide +kernel
theorem dX4_othersFromNorthOf_8 : decode cX4_othersFromNorthOf 8 = .ok (.aload_n 0, 1) := by decide +kernel
theorem dX4_othersFromNorthOf_9 : decode cX4_othersFromNorthOf 9 = .ok (.getfield 27, 3) := by decide +kernel
theorem dX4_othersFromNorthOf_12 : decode cX4_othersFromNorthOf 12 = .ok (.if_icmp .ge 35, 3) := by decide +kernel
theorem dX4_othersFromNorthOf_15 : decode cX4_othersFromNorthOf 15 = .ok (.iload 5, 2) := by decide +kernel
theorem dX4_othersFromNorthOf_17 : decode cX4_othersFromNorthOf 17 = .ok (.iconst 5, 1) := by decide +kernel
theorem dX4_othersFromNorthOf_18 : decode cX4_othersFromNorthOf 18 = .ok (.if_icmp .ge 29, 3) := by decide +kernel
theorem dX4_othersFromNorthOf_21 : decode cX4_othersFromNorthOf 21 = .ok (.iload 5, 2) := by decide +kernel
theorem dX4_othersFromNorthOf_23 : decode cX4_othersFromNorthOf 23 = .ok (.iload_n 2, 1) := by decide +kernel
theorem dX4_othersFromNorthOf_24 : decode cX4_othersFromNorthOf 24 = .ok (.if_icmp .eq 17, 3) := by decide +kernel
theorem dX4_othersFromNorthOf_27 : decode cX4_othersFromNorthOf 27 = .ok (.aload_n 1, 1) := by decide +kernel
theorem dX4_othersFromNorthOf_28 : decode cX4_othersFromNorthOf 28 = .ok (.getfield 116, 3) := by decide +kernel
theorem dX4_othersFromNorthOf_31 : decode cX4_othersFromNorthOf 31 = .ok (.iload 5, 2) := by decide +kernel
theorem dX4_othersFromNorthOf_33 : decode cX4_othersFromNorthOf 33 = .ok (.iaload, 1) := by decide +kernel
theorem dX4_othersFromNorthOf_34 : decode cX4_othersFromNorthOf 34 = .ok (.iload_n 3, 1) := by decide +kernel
theorem dX4_othersFromNorthOf_35 : decode cX4_othersFromNorthOf 35 = .ok (.if_icmp .lt 6, 3) := by decide +kernel
theorem dX4_othersFromNorthOf_38 : decode cX4_othersFromNorthOf 38 = .ok (.iinc 4 1, 3) := by decide +kernel
theorem dX4_othersFromNorthOf_41 : decode cX4_othersFromNorthOf 41 = .ok (.iinc 5 1, 3) := by decide +kernel
theorem dX4_othersFromNorthOf_44 : decode cX4_othersFromNorthOf 44 = .ok (.goto (-38), 3) := by decide +kernel
theorem dX4_othersFromNorthOf_47 : decode cX4_othersFromNorthOf 47 = .ok (.iload 4, 2) := by decide +kernel
theorem dX4_othersFromNorthOf_49 : decode cX4_othersFromNorthOf 49 = .ok (.ireturn, 1) := by decide +kernel
theorem dX4_balkers_0 : decode cX4_balkers 0 = .ok (.aload_n 0, 1) := by decide +kernel
theorem dX4_balkers_1 : decode cX4_balkers 1 = .ok (.aload_n 1, 1) := by decide +kernel
theorem dX4_balkers_2 : decode cX4_balkers 2 = .ok (.iload_n 2, 1) := by decide +kernel
theorem dX4_balkers_3 : decode cX4_balkers 3 = .ok (.iload_n 3, 1) := by decide +kernel
theorem dX4_balkers_4 : decode cX4_balkers 4 = .ok (.invokevirtual 131, 3) := by decide +kernel
theorem dX4_balkers_7 : decode cX4_balkers 7 = .ok (.istore 4, 2) := by decide +kernel
theorem dX4_balkers_9 : decode cX4_balkers 9 = .ok (.iload 4, 2) := by decide +kernel
theorem dX4_balkers_11 : decode cX4_balkers 11 = .ok (.iconst (-1), 1) := by decide +kernel
theorem dX4_balkers_12 : decode cX4_balkers 12 = .ok (.if_icmp .ne 7, 3) := by decide +kernel
theorem dX4_balkers_15 : decode cX4_balkers 15 = .ok (.iconst 0, 1) := by decide +kernel
theorem dX4_balkers_16 : decode cX4_balkers 16 = .ok (.goto 12, 3) := by decide +kernel
theorem dX4_balkers_19 : decode cX4_balkers 19 = .ok (.iload 4, 2) := by decide +kernel
theorem dX4_balkers_21 : decode cX4_balkers 21 = .ok (.aload_n 0, 1) := by decide +kernel
theorem dX4_balkers_22 : decode cX4_balkers 22 = .ok (.aload_n 1, 1) := by decide +kernel
theorem dX4_balkers_23 : decode cX4_balkers 23 = .ok (.iload_n 2, 1) := by decide +kernel
theorem dX4_balkers_24 : decode cX4_balkers 24 = .ok (.invokevirtual 123, 3) := by decide +kernel
theorem dX4_balkers_27 : decode cX4_balkers 27 = .ok (.iand, 1) := by decide +kernel
theorem dX4_balkers_28 : decode cX4_balkers 28 = .ok (.ireturn, 1) := by decide +kernel
theorem dX4_wouldGo_0 : decode cX4_wouldGo 0 = .ok (.aload_n 0, 1) := by decide +kernel
theorem dX4_wouldGo_1 : decode cX4_wouldGo 1 = .ok (.aload_n 1, 1) := by decide +kernel
theorem dX4_wouldGo_2 : decode cX4_wouldGo 2 = .ok (.iload_n 2, 1) := by decide +kernel
theorem dX4_wouldGo_3 : decode cX4_wouldGo 3 = .ok (.iload_n 3, 1) := by decide +kernel
theorem dX4_wouldGo_4 : decode cX4_wouldGo 4 = .ok (.invokevirtual 131, 3) := by decide +kernel
theorem dX4_wouldGo_7 : decode cX4_wouldGo 7 = .ok (.istore 4, 2) := by decide +kernel
theorem dX4_wouldGo_9 : decode cX4_wouldGo 9 = .ok (.iload 4, 2) := by decide +kernel
theorem dX4_wouldGo_11 : decode cX4_wouldGo 11 = .ok (.iconst (-1), 1) := by decide +kernel
theorem dX4_wouldGo_12 : decode cX4_wouldGo 12 = .ok (.if_icmp .eq 19, 3) := by decide +kernel
theorem dX4_wouldGo_15 : decode cX4_wouldGo 15 = .ok (.iload 4, 2) := by decide +kernel
theorem dX4_wouldGo_17 : decode cX4_wouldGo 17 = .ok (.aload_n 0, 1) := by decide +kernel
theorem dX4_wouldGo_18 : decode cX4_wouldGo 18 = .ok (.aload_n 1, 1) := by decide +kernel
theorem dX4_wouldGo_19 : decode cX4_wouldGo 19 = .ok (.iload_n 2, 1) := by decide +kernel
theorem dX4_wouldGo_20 : decode cX4_wouldGo 20 = .ok (.invokevirtual 123, 3) := by decide +kernel
theorem dX4_wouldGo_23 : decode cX4_wouldGo 23 = .ok (.iand, 1) := by decide +kernel
theorem dX4_wouldGo_24 : decode cX4_wouldGo 24 = .ok (.ifCond .ne 7, 3) := by decide +kernel
theorem dX4_wouldGo_27 : decode cX4_wouldGo 27 = .ok (.iconst 1, 1) := by decide +kernel
theorem dX4_wouldGo_28 : decode cX4_wouldGo 28 = .ok (.goto 4, 3) := by decide +kernel
theorem dX4_wouldGo_31 : decode cX4_wouldGo 31 = .ok (.iconst 0, 1) := by decide +kernel
theorem dX4_wouldGo_32 : decode cX4_wouldGo 32 = .ok (.ireturn, 1) := by decide +kernel
theorem dX4_copyState_0 : decode cX4_copyState 0 = .ok (.aload_n 0, 1) := by decide +kernel
theorem dX4_copyState_1 : decode cX4_copyState 1 = .ok (.ifnull 7, 3) := by decide +kernel
theorem dX4_copyState_4 : decode cX4_copyState 4 = .ok (.aload_n 1, 1) := by decide +kernel
theorem dX4_copyState_5 : decode cX4_copyState 5 = .ok (.ifnonnull 4, 3) := by decide +kernel
theorem dX4_copyState_8 : decode cX4_copyState 8 = .ok (.return_, 1) := by decide +kernel
theorem dX4_copyState_9 : decode cX4_copyState 9 = .ok (.iconst 0, 1) := by decide +kernel
theorem dX4_copyState_10 : decode cX4_copyState 10 = .ok (.istore_n 2, 1) := by decide +kernel
theorem dX4_copyState_11 : decode cX4_copyState 11 = .ok (.iload_n 2, 1) := by decide +kernel
theorem dX4_copyState_12 : decode cX4_copyState 12 = .ok (.iconst 5, 1) := by decide +kernel
theorem dX4_copyState_13 : decode cX4_copyState 13 = .ok (.if_icmp .ge 45, 3) := by decide +kernel
theorem dX4_copyState_16 : decode cX4_copyState 16 = .ok (.aload_n 1, 1) := by decide +kernel
theorem dX4_copyState_17 : decode cX4_copyState 17 = .ok (.getfield 116, 3) := by decide +kernel
theorem dX4_copyState_20 : decode cX4_copyState 20 = .ok (.iload_n 2, 1) := by decide +kernel
theorem dX4_copyState_21 : decode cX4_copyState 21 = .ok (.aload_n 0, 1) := by decide +kernel
theorem dX4_copyState_22 : decode cX4_copyState 22 = .ok (.getfield 116, 3) := by decide +kernel
theorem dX4_copyState_25 : decode cX4_copyState 25 = .ok (.iload_n 2, 1) := by decide +kernel
theorem dX4_copyState_26 : decode cX4_copyState 26 = .ok (.iaload, 1) := by decide +kernel
theorem dX4_copyState_27 : decode cX4_copyState 27 = .ok (.iastore, 1) := by decide +kernel
theorem dX4_copyState_28 : decode cX4_copyState 28 = .ok (.aload_n 1, 1) := by decide +kernel
theorem dX4_copyState_29 : decode cX4_copyState 29 = .ok (.getfield 117, 3) := by decide +kernel
theorem dX4_copyState_32 : decode cX4_copyState 32 = .ok (.iload_n 2, 1) := by decide +kernel
theorem dX4_copyState_33 : decode cX4_copyState 33 = .ok (.aload_n 0, 1) := by decide +kernel
theorem dX4_copyState_34 : decode cX4_copyState 34 = .ok (.getfield 117, 3) := by decide +kernel
theorem dX4_copyState_37 : decode cX4_copyState 37 = .ok (.iload_n 2, 1) := by decide +kernel
theorem dX4_copyState_38 : decode cX4_copyState 38 = .ok (.iaload, 1) := by decide +kernel
theorem dX4_copyState_39 : decode cX4_copyState 39 = .ok (.iastore, 1) := by decide +kernel
theorem dX4_copyState_40 : decode cX4_copyState 40 = .ok (.aload_n 1, 1) := by decide +kernel
theorem dX4_copyState_41 : decode cX4_copyState 41 = .ok (.getfield 120, 3) := by decide +kernel
theorem dX4_copyState_44 : decode cX4_copyState 44 = .ok (.iload_n 2, 1) := by decide +kernel
theorem dX4_copyState_45 : decode cX4_copyState 45 = .ok (.aload_n 0, 1) := by decide +kernel
theorem dX4_copyState_46 : decode cX4_copyState 46 = .ok (.getfield 120, 3) := by decide +kernel
theorem dX4_copyState_49 : decode cX4_copyState 49 = .ok (.iload_n 2, 1) := by decide +kernel
theorem dX4_copyState_50 : decode cX4_copyState 50 = .ok (.iaload, 1) := by decide +kernel
theorem dX4_copyState_51 : decode cX4_copyState 51 = .ok (.iastore, 1) := by decide +kernel
theorem dX4_copyState_52 : decode cX4_copyState 52 = .ok (.iinc 2 1, 3) := by decide +kernel
theorem dX4_copyState_55 : decode cX4_copyState 55 = .ok (.goto (-44), 3) := by decide +kernel
theorem dX4_copyState_58 : decode cX4_copyState 58 = .ok (.aload_n 1, 1) := by decide +kernel
theorem dX4_copyState_59 : decode cX4_copyState 59 = .ok (.aload_n 0, 1) := by decide +kernel
theorem dX4_copyState_60 : decode cX4_copyState 60 = .ok (.getfield 86, 3) := by decide +kernel
theorem dX4_copyState_63 : decode cX4_copyState 63 = .ok (.putfield 86, 3) := by decide +kernel
theorem dX4_copyState_66 : decode cX4_copyState 66 = .ok (.aload_n 1, 1) := by decide +kernel
theorem dX4_copyState_67 : decode cX4_copyState 67 = .ok (.aload_n 0, 1) := by decide +kernel
theorem dX4_copyState_68 : decode cX4_copyState 68 = .ok (.getfield 89, 3) := by decide +kernel
theorem dX4_copyState_71 : decode cX4_copyState 71 = .ok (.putfield 89, 3) := by decide +kernel
theorem dX4_copyState_74 : decode cX4_copyState 74 = .ok (.return_, 1) := by decide +kernel
theorem dX4_rememberAct_0 : decode cX4_rememberAct 0 = .ok (.aload_n 0, 1) := by decide +kernel
theorem dX4_rememberAct_1 : decode cX4_rememberAct 1 = .ok (.getfield 48, 3) := by decide +kernel
theorem dX4_rememberAct_4 : decode cX4_rememberAct 4 = .ok (.bipush 14, 2) := by decide +kernel
theorem dX4_rememberAct_6 : decode cX4_rememberAct 6 = .ok (.if_icmp .ne 26, 3) := by decide +kernel
theorem dX4_rememberAct_9 : decode cX4_rememberAct 9 = .ok (.aload_n 0, 1) := by decide +kernel
theorem dX4_rememberAct_10 : decode cX4_rememberAct 10 = .ok (.aload_n 0, 1) := by decide +kernel
theorem dX4_rememberAct_11 : decode cX4_rememberAct 11 = .ok (.getfield 45, 3) := by decide +kernel
theorem dX4_rememberAct_14 : decode cX4_rememberAct 14 = .ok (.iconst 1, 1) := by decide +kernel
theorem dX4_rememberAct_15 : decode cX4_rememberAct 15 = .ok (.iadd, 1) := by decide +kernel
theorem dX4_rememberAct_16 : decode cX4_rememberAct 16 = .ok (.bipush 14, 2) := by decide +kernel
theorem dX4_rememberAct_18 : decode cX4_rememberAct 18 = .ok (.irem, 1) := by decide +kernel
theorem dX4_rememberAct_19 : decode cX4_rememberAct 19 = .ok (.putfield 45, 3) := by decide +kernel
theorem dX4_rememberAct_22 : decode cX4_rememberAct 22 = .ok (.aload_n 0, 1) := by decide +kernel
theorem dX4_rememberAct_23 : decode cX4_rememberAct 23 = .ok (.dup, 1) := by decide +kernel
theorem dX4_rememberAct_24 : decode cX4_rememberAct 24 = .ok (.getfield 48, 3) := by decide +kernel
theorem dX4_rememberAct_27 : decode cX4_rememberAct 27 = .ok (.iconst 1, 1) := by decide +kernel
theorem dX4_rememberAct_28 : decode cX4_rememberAct 28 = .ok (.isub, 1) := by decide +kernel
theorem dX4_rememberAct_29 : decode cX4_rememberAct 29 = .ok (.putfield 48, 3) := by decide +kernel
theorem dX4_rememberAct_32 : decode cX4_rememberAct 32 = .ok (.aload_n 0, 1) := by decide +kernel
theorem dX4_rememberAct_33 : decode cX4_rememberAct 33 = .ok (.getfield 34, 3) := by decide +kernel
theorem dX4_rememberAct_36 : decode cX4_rememberAct 36 = .ok (.aload_n 0, 1) := by decide +kernel
theorem dX4_rememberAct_37 : decode cX4_rememberAct 37 = .ok (.aload_n 0, 1) := by decide +kernel
theorem dX4_rememberAct_38 : decode cX4_rememberAct 38 = .ok (.getfield 48, 3) := by decide +kernel
theorem dX4_rememberAct_41 : decode cX4_rememberAct 41 = .ok (.invokevirtual 157, 3) := by decide +kernel
theorem dX4_rememberAct_44 : decode cX4_rememberAct 44 = .ok (.invokestatic 161, 3) := by decide +kernel
theorem dX4_rememberAct_47 : decode cX4_rememberAct 47 = .ok (.aload_n 0, 1) := by decide +kernel
theorem dX4_rememberAct_48 : decode cX4_rememberAct 48 = .ok (.dup, 1) := by decide +kernel
theorem dX4_rememberAct_49 : decode cX4_rememberAct 49 = .ok (.getfield 48, 3) := by decide +kernel
theorem dX4_rememberAct_52 : decode cX4_rememberAct 52 = .ok (.iconst 1, 1) := by decide +kernel
theorem dX4_rememberAct_53 : decode cX4_rememberAct 53 = .ok (.iadd, 1) := by decide +kernel
theorem dX4_rememberAct_54 : decode cX4_rememberAct 54 = .ok (.putfield 48, 3) := by decide +kernel
theorem dX4_rememberAct_57 : decode cX4_rememberAct 57 = .ok (.return_, 1) := by decide +kernel
theorem dX4_actAt_0 : decode cX4_actAt 0 = .ok (.aload_n 0, 1) := by decide +kernel
theorem dX4_actAt_1 : decode cX4_actAt 1 = .ok (.getfield 45, 3) := by decide +kernel
theorem dX4_actAt_4 : decode cX4_actAt 4 = .ok (.iload_n 1, 1) := by decide +kernel
theorem dX4_actAt_5 : decode cX4_actAt 5 = .ok (.iadd, 1) := by decide +kernel
theorem dX4_actAt_6 : decode cX4_actAt 6 = .ok (.bipush 14, 2) := by decide +kernel
theorem dX4_actAt_8 : decode cX4_actAt 8 = .ok (.irem, 1) := by decide +kernel
theorem dX4_actAt_9 : decode cX4_actAt 9 = .ok (.istore_n 2, 1) := by decide +kernel
theorem dX4_actAt_10 : decode cX4_actAt 10 = .ok (.iload_n 2, 1) := by decide +kernel
theorem dX4_actAt_11 : decode cX4_actAt 11 = .ok (.ifCond .lt 21, 3) := by decide +kernel
theorem dX4_actAt_14 : decode cX4_actAt 14 = .ok (.iload_n 2, 1) := by decide +kernel
theorem dX4_actAt_15 : decode cX4_actAt 15 = .ok (.aload_n 0, 1) := by decide +kernel
theorem dX4_actAt_16 : decode cX4_actAt 16 = .ok (.getfield 41, 3) := by decide +kernel
theorem dX4_actAt_19 : decode cX4_actAt 19 = .ok (.arraylength, 1) := by decide +kernel
theorem dX4_actAt_20 : decode cX4_actAt 20 = .ok (.if_icmp .ge 12, 3) := by decide +kernel
theorem dX4_actAt_23 : decode cX4_actAt 23 = .ok (.aload_n 0, 1) := by decide +kernel
theorem dX4_actAt_24 : decode cX4_actAt 24 = .ok (.getfield 41, 3) := by decide +kernel
theorem dX4_actAt_27 : decode cX4_actAt 27 = .ok (.iload_n 2, 1) := by decide +kernel
theorem dX4_actAt_28 : decode cX4_actAt 28 = .ok (.aaload, 1) := by decide +kernel
theorem dX4_actAt_29 : decode cX4_actAt 29 = .ok (.goto 4, 3) := by decide +kernel
theorem dX4_actAt_32 : decode cX4_actAt 32 = .ok (.aconst_null, 1) := by decide +kernel
theorem dX4_actAt_33 : decode cX4_actAt 33 = .ok (.areturn, 1) := by decide +kernel
theorem dX4_go_0 : decode cX4_go 0 = .ok (.aload_n 0, 1) := by decide +kernel
theorem dX4_go_1 : decode cX4_go 1 = .ok (.aload_n 1, 1) := by decide +kernel
theorem dX4_go_2 : decode cX4_go 2 = .ok (.iload_n 2, 1) := by decide +kernel
theorem dX4_go_3 : decode cX4_go 3 = .ok (.iload_n 3, 1) := by decide +kernel
theorem dX4_go_4 : decode cX4_go 4 = .ok (.invokevirtual 131, 3) := by decide +kernel
theorem dX4_go_7 : decode cX4_go 7 = .ok (.istore 4, 2) := by decide +kernel
theorem dX4_go_9 : decode cX4_go 9 = .ok (.iload 4, 2) := by decide +kernel
theorem dX4_go_11 : decode cX4_go 11 = .ok (.iconst (-1), 1) := by decide +kernel
theorem dX4_go_12 : decode cX4_go 12 = .ok (.if_icmp .ne 4, 3) := by decide +kernel
theorem dX4_go_15 : decode cX4_go 15 = .ok (.return_, 1) := by decide +kernel
theorem dX4_go_16 : decode cX4_go 16 = .ok (.aload_n 1, 1) := by decide +kernel
theorem dX4_go_17 : decode cX4_go 17 = .ok (.dup, 1) := by decide +kernel
theorem dX4_go_18 : decode cX4_go 18 = .ok (.getfield 89, 3) := by decide +kernel
theorem dX4_go_21 : decode cX4_go 21 = .ok (.iload 4, 2) := by decide +kernel
theorem dX4_go_23 : decode cX4_go 23 = .ok (.invokestatic 152, 3) := by decide +kernel
theorem dX4_go_26 : decode cX4_go 26 = .ok (.iadd, 1) := by decide +kernel
theorem dX4_go_27 : decode cX4_go 27 = .ok (.putfield 89, 3) := by decide +kernel
theorem dX4_go_30 : decode cX4_go 30 = .ok (.aload_n 1, 1) := by decide +kernel
theorem dX4_go_31 : decode cX4_go 31 = .ok (.getfield 116, 3) := by decide +kernel
theorem dX4_go_34 : decode cX4_go 34 = .ok (.iload_n 2, 1) := by decide +kernel
theorem dX4_go_35 : decode cX4_go 35 = .ok (.aload_n 1, 1) := by decide +kernel
theorem dX4_go_36 : decode cX4_go 36 = .ok (.getfield 116, 3) := by decide +kernel
theorem dX4_go_39 : decode cX4_go 39 = .ok (.iload_n 2, 1) := by decide +kernel
theorem dX4_go_40 : decode cX4_go 40 = .ok (.iaload, 1) := by decide +kernel
theorem dX4_go_41 : decode cX4_go 41 = .ok (.iload_n 3, 1) := by decide +kernel
theorem dX4_go_42 : decode cX4_go 42 = .ok (.invokestatic 240, 3) := by decide +kernel
theorem dX4_go_45 : decode cX4_go 45 = .ok (.iastore, 1) := by decide +kernel
theorem dX4_go_46 : decode cX4_go 46 = .ok (.aload_n 1, 1) := by decide +kernel
theorem dX4_go_47 : decode cX4_go 47 = .ok (.dup, 1) := by decide +kernel
theorem dX4_go_48 : decode cX4_go 48 = .ok (.getfield 86, 3) := by decide +kernel
theorem dX4_go_51 : decode cX4_go 51 = .ok (.iconst 1, 1) := by decide +kernel
theorem dX4_go_52 : decode cX4_go 52 = .ok (.iadd, 1) := by decide +kernel
theorem dX4_go_53 : decode cX4_go 53 = .ok (.putfield 86, 3) := by decide +kernel
theorem dX4_go_56 : decode cX4_go 56 = .ok (.return_, 1) := by decide +kernel
theorem dX4_doneWithoutFault_0 : decode cX4_doneWithoutFault 0 = .ok (.iload_n 2, 1) := by decide +kernel
theorem dX4_doneWithoutFault_1 : decode cX4_doneWithoutFault 1 = .ok (.ifCond .ne 23, 3) := by decide +kernel
theorem dX4_doneWithoutFault_4 : decode cX4_doneWithoutFault 4 = .ok (.aload_n 1, 1) := by decide +kernel
theorem dX4_doneWithoutFault_5 : decode cX4_doneWithoutFault 5 = .ok (.dup, 1) := by decide +kernel
theorem dX4_doneWithoutFault_6 : decode cX4_doneWithoutFault 6 = .ok (.getfield 86, 3) := by decide +kernel
theorem dX4_doneWithoutFault_9 : decode cX4_doneWithoutFault 9 = .ok (.iconst 1, 1) := by decide +kernel
theorem dX4_doneWithoutFault_10 : decode cX4_doneWithoutFault 10 = .ok (.iadd, 1) := by decide +kernel
theorem dX4_doneWithoutFault_11 : decode cX4_doneWithoutFault 11 = .ok (.putfield 86, 3) := by decide +kernel
theorem dX4_doneWithoutFault_14 : decode cX4_doneWithoutFault 14 = .ok (.iload_n 3, 1) := by decide +kernel
theorem dX4_doneWithoutFault_15 : decode cX4_doneWithoutFault 15 = .ok (.ifCond .ne 7, 3) := by decide +kernel
theorem dX4_doneWithoutFault_18 : decode cX4_doneWithoutFault 18 = .ok (.iconst 1, 1) := by decide +kernel
theorem dX4_doneWithoutFault_19 : decode cX4_doneWithoutFault 19 = .ok (.goto 4, 3) := by decide +kernel
theorem dX4_doneWithoutFault_22 : decode cX4_doneWithoutFault 22 = .ok (.iconst 0, 1) := by decide +kernel
theorem dX4_doneWithoutFault_23 : decode cX4_doneWithoutFault 23 = .ok (.ireturn, 1) := by decide +kernel
theorem dX4_doneWithoutFault_24 : decode cX4_doneWithoutFault 24 = .ok (.iload_n 2, 1) := by decide +kernel
theorem dX4_doneWithoutFault_25 : decode cX4_doneWithoutFault 25 = .ok (.iconst 5, 1) := by decide +kernel
theorem dX4_doneWithoutFault_26 : decode cX4_doneWithoutFault 26 = .ok (.if_icmp .gt 46, 3) := by decide +kernel
theorem dX4_doneWithoutFault_29 : decode cX4_doneWithoutFault 29 = .ok (.iload_n 3, 1) := by decide +kernel
theorem dX4_doneWithoutFault_30 : decode cX4_doneWithoutFault 30 = .ok (.invokestatic 189, 3) := by decide +kernel
theorem dX4_doneWithoutFault_33 : decode cX4_doneWithoutFault 33 = .ok (.ifCond .eq 19, 3) := by decide +kernel
theorem dX4_doneWithoutFault_36 : decode cX4_doneWithoutFault 36 = .ok (.aload_n 0, 1) := by decide +kernel
theorem dX4_doneWithoutFault_37 : decode cX4_doneWithoutFault 37 = .ok (.aload_n 1, 1) := by decide +kernel
theorem dX4_doneWithoutFault_38 : decode cX4_doneWithoutFault 38 = .ok (.iload_n 2, 1) := by decide +kernel
theorem dX4_doneWithoutFault_39 : decode cX4_doneWithoutFault 39 = .ok (.iconst 1, 1) := by decide +kernel
theorem dX4_doneWithoutFault_40 : decode cX4_doneWithoutFault 40 = .ok (.isub, 1) := by decide +kernel
theorem dX4_doneWithoutFault_41 : decode cX4_doneWithoutFault 41 = .ok (.iload_n 3, 1) := by decide +kernel
theorem dX4_doneWithoutFault_42 : decode cX4_doneWithoutFault 42 = .ok (.invokevirtual 131, 3) := by decide +kernel
theorem dX4_doneWithoutFault_45 : decode cX4_doneWithoutFault 45 = .ok (.ifCond .ne 7, 3) := by decide +kernel
theorem dX4_doneWithoutFault_48 : decode cX4_doneWithoutFault 48 = .ok (.iconst 1, 1) := by decide +kernel
theorem dX4_doneWithoutFault_49 : decode cX4_doneWithoutFault 49 = .ok (.goto 4, 3) := by decide +kernel
theorem dX4_doneWithoutFault_52 : decode cX4_doneWithoutFault 52 = .ok (.iconst 0, 1) := by decide +kernel
theorem dX4_doneWithoutFault_53 : decode cX4_doneWithoutFault 53 = .ok (.istore 4, 2) := by decide +kernel
theorem dX4_doneWithoutFault_55 : decode cX4_doneWithoutFault 55 = .ok (.iload 4, 2) := by decide +kernel
theorem dX4_doneWithoutFault_57 : decode cX4_doneWithoutFault 57 = .ok (.ifCond .eq 12, 3) := by decide +kernel
theorem dX4_doneWithoutFault_60 : decode cX4_doneWithoutFault 60 = .ok (.aload_n 0, 1) := by decide +kernel
theorem dX4_doneWithoutFault_61 : decode cX4_doneWithoutFault 61 = .ok (.aload_n 1, 1) := by decide +kernel
theorem dX4_doneWithoutFault_62 : decode cX4_doneWithoutFault 62 = .ok (.iload_n 2, 1) := by decide +kernel
theorem dX4_doneWithoutFault_63 : decode cX4_doneWithoutFault 63 = .ok (.iconst 1, 1) := by decide +kernel
theorem dX4_doneWithoutFault_64 : decode cX4_doneWithoutFault 64 = .ok (.isub, 1) := by decide +kernel
theorem dX4_doneWithoutFault_65 : decode cX4_doneWithoutFault 65 = .ok (.iload_n 3, 1) := by decide +kernel
theorem dX4_doneWithoutFault_66 : decode cX4_doneWithoutFault 66 = .ok (.invokevirtual 148, 3) := by decide +kernel
theorem dX4_doneWithoutFault_69 : decode cX4_doneWithoutFault 69 = .ok (.iload 4, 2) := by decide +kernel
theorem dX4_doneWithoutFault_71 : decode cX4_doneWithoutFault 71 = .ok (.ireturn, 1) := by decide +kernel
theorem dX4_doneWithoutFault_72 : decode cX4_doneWithoutFault 72 = .ok (.aload_n 0, 1) := by decide +kernel
theorem dX4_doneWithoutFault_73 : decode cX4_doneWithoutFault 73 = .ok (.iload_n 3, 1) := by decide +kernel
theorem dX4_doneWithoutFault_74 : decode cX4_doneWithoutFault 74 = .ok (.invokevirtual 113, 3) := by decide +kernel
theorem dX4_doneWithoutFault_77 : decode cX4_doneWithoutFault 77 = .ok (.ifCond .ne 5, 3) := by decide +kernel
theorem dX4_doneWithoutFault_80 : decode cX4_doneWithoutFault 80 = .ok (.iconst 0, 1) := by decide +kernel
theorem dX4_doneWithoutFault_81 : decode cX4_doneWithoutFault 81 = .ok (.ireturn, 1) := by decide +kernel
theorem dX4_doneWithoutFault_82 : decode cX4_doneWithoutFault 82 = .ok (.iload_n 2, 1) := by decide +kernel
theorem dX4_doneWithoutFault_83 : decode cX4_doneWithoutFault 83 = .ok (.bipush 6, 2) := by decide +kernel
theorem dX4_doneWithoutFault_85 : decode cX4_doneWithoutFault 85 = .ok (.if_icmp .ne 30, 3) := by decide +kernel
theorem dX4_doneWithoutFault_88 : decode cX4_doneWithoutFault 88 = .ok (.aload_n 1, 1) := by decide +kernel
theorem dX4_doneWithoutFault_89 : decode cX4_doneWithoutFault 89 = .ok (.getfield 117, 3) := by decide +kernel
theorem dX4_doneWithoutFault_92 : decode cX4_doneWithoutFault 92 = .ok (.iload_n 3, 1) := by decide +kernel
theorem dX4_doneWithoutFault_93 : decode cX4_doneWithoutFault 93 = .ok (.iaload, 1) := by decide +kernel
theorem dX4_doneWithoutFault_94 : decode cX4_doneWithoutFault 94 = .ok (.iconst 3, 1) := by decide +kernel
theorem dX4_doneWithoutFault_95 : decode cX4_doneWithoutFault 95 = .ok (.if_icmp .eq 7, 3) := by decide +kernel
theorem dX4_doneWithoutFault_98 : decode cX4_doneWithoutFault 98 = .ok (.iconst 1, 1) := by decide +kernel
theorem dX4_doneWithoutFault_99 : decode cX4_doneWithoutFault 99 = .ok (.goto 4, 3) := by decide +kernel
theorem dX4_doneWithoutFault_102 : decode cX4_doneWithoutFault 102 = .ok (.iconst 0, 1) := by decide +kernel
theorem dX4_doneWithoutFault_103 : decode cX4_doneWithoutFault 103 = .ok (.istore 4, 2) := by decide +kernel
theorem dX4_doneWithoutFault_105 : decode cX4_doneWithoutFault 105 = .ok (.aload_n 1, 1) := by decide +kernel
theorem dX4_doneWithoutFault_106 : decode cX4_doneWithoutFault 106 = .ok (.getfield 117, 3) := by decide +kernel
theorem dX4_doneWithoutFault_109 : decode cX4_doneWithoutFault 109 = .ok (.iload_n 3, 1) := by decide +kernel
theorem dX4_doneWithoutFault_110 : decode cX4_doneWithoutFault 110 = .ok (.iconst 3, 1) := by decide +kernel
theorem dX4_doneWithoutFault_111 : decode cX4_doneWithoutFault 111 = .ok (.iastore, 1) := by decide +kernel
theorem dX4_doneWithoutFault_112 : decode cX4_doneWithoutFault 112 = .ok (.iload 4, 2) := by decide +kernel
theorem dX4_doneWithoutFault_114 : decode cX4_doneWithoutFault 114 = .ok (.ireturn, 1) := by decide +kernel
theorem dX4_doneWithoutFault_115 : decode cX4_doneWithoutFault 115 = .ok (.iload_n 2, 1) := by decide +kernel
theorem dX4_doneWithoutFault_116 : decode cX4_doneWithoutFault 116 = .ok (.bipush 7, 2) := by decide +kernel
theorem dX4_doneWithoutFault_118 : decode cX4_doneWithoutFault 118 = .ok (.if_icmp .ne 16, 3) := by decide +kernel
theorem dX4_doneWithoutFault_121 : decode cX4_doneWithoutFault 121 = .ok (.aload_n 1, 1) := by decide +kernel
theorem dX4_doneWithoutFault_122 : decode cX4_doneWithoutFault 122 = .ok (.getfield 120, 3) := by decide +kernel
theorem dX4_doneWithoutFault_125 : decode cX4_doneWithoutFault 125 = .ok (.iload_n 3, 1) := by decide +kernel
theorem dX4_doneWithoutFault_126 : decode cX4_doneWithoutFault 126 = .ok (.iaload, 1) := by decide +kernel
theorem dX4_doneWithoutFault_127 : decode cX4_doneWithoutFault 127 = .ok (.ifCond .eq 7, 3) := by decide +kernel
theorem dX4_doneWithoutFault_130 : decode cX4_doneWithoutFault 130 = .ok (.iconst 1, 1) := by decide +kernel
theorem dX4_doneWithoutFault_131 : decode cX4_doneWithoutFault 131 = .ok (.goto 4, 3) := by decide +kernel
theorem dX4_doneWithoutFault_134 : decode cX4_doneWithoutFault 134 = .ok (.iconst 0, 1) := by decide +kernel
theorem dX4_doneWithoutFault_135 : decode cX4_doneWithoutFault 135 = .ok (.istore 4, 2) := by decide +kernel
theorem dX4_doneWithoutFault_137 : decode cX4_doneWithoutFault 137 = .ok (.aload_n 1, 1) := by decide +kernel
theorem dX4_doneWithoutFault_138 : decode cX4_doneWithoutFault 138 = .ok (.getfield 120, 3) := by decide +kernel
theorem dX4_doneWithoutFault_141 : decode cX4_doneWithoutFault 141 = .ok (.iload_n 3, 1) := by decide +kernel
theorem dX4_doneWithoutFault_142 : decode cX4_doneWithoutFault 142 = .ok (.iconst 0, 1) := by decide +kernel
theorem dX4_doneWithoutFault_143 : decode cX4_doneWithoutFault 143 = .ok (.iastore, 1) := by decide +kernel
theorem dX4_doneWithoutFault_144 : decode cX4_doneWithoutFault 144 = .ok (.iload 4, 2) := by decide +kernel
theorem dX4_doneWithoutFault_146 : decode cX4_doneWithoutFault 146 = .ok (.ireturn, 1) := by decide +kernel
theorem dX4_liveThrough_0 : decode cX4_liveThrough 0 = .ok (.aload_n 0, 1) := by decide +kernel
theorem dX4_liveThrough_1 : decode cX4_liveThrough 1 = .ok (.aload_n 1, 1) := by decide +kernel
theorem dX4_liveThrough_2 : decode cX4_liveThrough 2 = .ok (.iload_n 2, 1) := by decide +kernel
theorem dX4_liveThrough_3 : decode cX4_liveThrough 3 = .ok (.iload_n 3, 1) := by decide +kernel
theorem dX4_liveThrough_4 : decode cX4_liveThrough 4 = .ok (.invokevirtual 141, 3) := by decide +kernel
theorem dX4_liveThrough_7 : decode cX4_liveThrough 7 = .ok (.ifCond .eq 13, 3) := by decide +kernel
theorem dX4_liveThrough_10 : decode cX4_liveThrough 10 = .ok (.aload_n 0, 1) := by decide +kernel
theorem dX4_liveThrough_11 : decode cX4_liveThrough 11 = .ok (.aload_n 1, 1) := by decide +kernel
theorem dX4_liveThrough_12 : decode cX4_liveThrough 12 = .ok (.iload_n 2, 1) := by decide +kernel
theorem dX4_liveThrough_13 : decode cX4_liveThrough 13 = .ok (.iload_n 3, 1) := by decide +kernel
theorem dX4_liveThrough_14 : decode cX4_liveThrough 14 = .ok (.invokevirtual 148, 3) := by decide +kernel
theorem dX4_liveThrough_17 : decode cX4_liveThrough 17 = .ok (.goto 13, 3) := by decide +kernel
theorem dX4_liveThrough_20 : decode cX4_liveThrough 20 = .ok (.aload_n 1, 1) := by decide +kernel
theorem dX4_liveThrough_21 : decode cX4_liveThrough 21 = .ok (.dup, 1) := by decide +kernel
theorem dX4_liveThrough_22 : decode cX4_liveThrough 22 = .ok (.getfield 86, 3) := by decide +kernel
theorem dX4_liveThrough_25 : decode cX4_liveThrough 25 = .ok (.iconst 1, 1) := by decide +kernel
theorem dX4_liveThrough_26 : decode cX4_liveThrough 26 = .ok (.iadd, 1) := by decide +kernel
theorem dX4_liveThrough_27 : decode cX4_liveThrough 27 = .ok (.putfield 86, 3) := by decide +kernel
theorem dX4_liveThrough_30 : decode cX4_liveThrough 30 = .ok (.return_, 1) := by decide +kernel
theorem dX4_spread_0 : decode cX4_spread 0 = .ok (.iload_n 2, 1) := by decide +kernel
theorem dX4_spread_1 : decode cX4_spread 1 = .ok (.istore 5, 2) := by decide +kernel
theorem dX4_spread_3 : decode cX4_spread 3 = .ok (.iconst 0, 1) := by decide +kernel
theorem dX4_spread_4 : decode cX4_spread 4 = .ok (.istore 6, 2) := by decide +kernel
theorem dX4_spread_6 : decode cX4_spread 6 = .ok (.iload 6, 2) := by decide +kernel
theorem dX4_spread_8 : decode cX4_spread 8 = .ok (.bipush 10, 2) := by decide +kernel
theorem dX4_spread_10 : decode cX4_spread 10 = .ok (.if_icmp .ge 77, 3) := by decide +kernel
theorem dX4_spread_13 : decode cX4_spread 13 = .ok (.iconst 0, 1) := by decide +kernel
theorem dX4_spread_14 : decode cX4_spread 14 = .ok (.istore 7, 2) := by decide +kernel
theorem dX4_spread_16 : decode cX4_spread 16 = .ok (.iload 7, 2) := by decide +kernel
theorem dX4_spread_18 : decode cX4_spread 18 = .ok (.iconst 1, 1) := by decide +kernel
theorem dX4_spread_19 : decode cX4_spread 19 = .ok (.if_icmp .gt 62, 3) := by decide +kernel
theorem dX4_spread_22 : decode cX4_spread 22 = .ok (.iload_n 2, 1) := by decide +kernel
theorem dX4_spread_23 : decode cX4_spread 23 = .ok (.iload 6, 2) := by decide +kernel
theorem dX4_spread_25 : decode cX4_spread 25 = .ok (.ishr, 1) := by decide +kernel
theorem dX4_spread_26 : decode cX4_spread 26 = .ok (.iconst 1, 1) := by decide +kernel
theorem dX4_spread_27 : decode cX4_spread 27 = .ok (.iand, 1) := by decide +kernel
theorem dX4_spread_28 : decode cX4_spread 28 = .ok (.ifCond .eq 53, 3) := by decide +kernel
theorem dX4_spread_31 : decode cX4_spread 31 = .ok (.aload_n 0, 1) := by decide +kernel
theorem dX4_spread_32 : decode cX4_spread 32 = .ok (.aload_n 0, 1) := by decide +kernel
theorem dX4_spread_33 : decode cX4_spread 33 = .ok (.getfield 34, 3) := by decide +kernel
theorem dX4_spread_36 : decode cX4_spread 36 = .ok (.iload_n 1, 1) := by decide +kernel
theorem dX4_spread_37 : decode cX4_spread 37 = .ok (.iload 6, 2) := by decide +kernel
theorem dX4_spread_39 : decode cX4_spread 39 = .ok (.iload 7, 2) := by decide +kernel
theorem dX4_spread_41 : decode cX4_spread 41 = .ok (.iload_n 3, 1) := by decide +kernel
theorem dX4_spread_42 : decode cX4_spread 42 = .ok (.invokevirtual 243, 3) := by decide +kernel
theorem dX4_spread_45 : decode cX4_spread 45 = .ok (.istore 8, 2) := by decide +kernel
theorem dX4_spread_47 : decode cX4_spread 47 = .ok (.iload 8, 2) := by decide +kernel
theorem dX4_spread_49 : decode cX4_spread 49 = .ok (.iconst (-1), 1) := by decide +kernel
theorem dX4_spread_50 : decode cX4_spread 50 = .ok (.if_icmp .eq 25, 3) := by decide +kernel
theorem dX4_spread_53 : decode cX4_spread 53 = .ok (.iload 8, 2) := by decide +kernel
theorem dX4_spread_55 : decode cX4_spread 55 = .ok (.iload 4, 2) := by decide +kernel
theorem dX4_spread_57 : decode cX4_spread 57 = .ok (.iand, 1) := by decide +kernel
theorem dX4_spread_58 : decode cX4_spread 58 = .ok (.ifCond .ne 17, 3) := by decide +kernel
theorem dX4_spread_61 : decode cX4_spread 61 = .ok (.iload 5, 2) := by decide +kernel
theorem dX4_spread_63 : decode cX4_spread 63 = .ok (.iconst 1, 1) := by decide +kernel
theorem dX4_spread_64 : decode cX4_spread 64 = .ok (.iload 6, 2) := by decide +kernel
theorem dX4_spread_66 : decode cX4_spread 66 = .ok (.iload 7, 2) := by decide +kernel
theorem dX4_spread_68 : decode cX4_spread 68 = .ok (.invokestatic 240, 3) := by decide +kernel
theorem dX4_spread_71 : decode cX4_spread 71 = .ok (.ishl, 1) := by decide +kernel
theorem dX4_spread_72 : decode cX4_spread 72 = .ok (.ior, 1) := by decide +kernel
theorem dX4_spread_73 : decode cX4_spread 73 = .ok (.istore 5, 2) := by decide +kernel
theorem dX4_spread_75 : decode cX4_spread 75 = .ok (.iinc 7 1, 3) := by decide +kernel
theorem dX4_spread_78 : decode cX4_spread 78 = .ok (.goto (-62), 3) := by decide +kernel
theorem dX4_spread_81 : decode cX4_spread 81 = .ok (.iinc 6 1, 3) := by decide +kernel
theorem dX4_spread_84 : decode cX4_spread 84 = .ok (.goto (-78), 3) := by decide +kernel
theorem dX4_spread_87 : decode cX4_spread 87 = .ok (.iload 5, 2) := by decide +kernel
theorem dX4_spread_89 : decode cX4_spread 89 = .ok (.ireturn, 1) := by decide +kernel
theorem dX4_keepsAllIfShown_0 : decode cX4_keepsAllIfShown 0 = .ok (.aload_n 0, 1) := by decide +kernel
theorem dX4_keepsAllIfShown_1 : decode cX4_keepsAllIfShown 1 = .ok (.iload_n 1, 1) := by decide +kernel
theorem dX4_keepsAllIfShown_2 : decode cX4_keepsAllIfShown 2 = .ok (.invokevirtual 113, 3) := by decide +kernel
theorem dX4_keepsAllIfShown_5 : decode cX4_keepsAllIfShown 5 = .ok (.ifCond .ne 5, 3) := by decide +kernel
theorem dX4_keepsAllIfShown_8 : decode cX4_keepsAllIfShown 8 = .ok (.iconst 0, 1) := by decide +kernel
theorem dX4_keepsAllIfShown_9 : decode cX4_keepsAllIfShown 9 = .ok (.ireturn, 1) := by decide +kernel
theorem dX4_keepsAllIfShown_10 : decode cX4_keepsAllIfShown 10 = .ok (.aload_n 0, 1) := by decide +kernel
theorem dX4_keepsAllIfShown_11 : decode cX4_keepsAllIfShown 11 = .ok (.aload_n 0, 1) := by decide +kernel
theorem dX4_keepsAllIfShown_12 : decode cX4_keepsAllIfShown 12 = .ok (.getfield 34, 3) := by decide +kernel
theorem dX4_keepsAllIfShown_15 : decode cX4_keepsAllIfShown 15 = .ok (.getfield 117, 3) := by decide +kernel
theorem dX4_keepsAllIfShown_18 : decode cX4_keepsAllIfShown 18 = .ok (.iload_n 1, 1) := by decide +kernel
theorem dX4_keepsAllIfShown_19 : decode cX4_keepsAllIfShown 19 = .ok (.iaload, 1) := by decide +kernel
theorem dX4_keepsAllIfShown_20 : decode cX4_keepsAllIfShown 20 = .ok (.aload_n 0, 1) := by decide +kernel
theorem dX4_keepsAllIfShown_21 : decode cX4_keepsAllIfShown 21 = .ok (.getfield 34, 3) := by decide +kernel
theorem dX4_keepsAllIfShown_24 : decode cX4_keepsAllIfShown 24 = .ok (.getfield 120, 3) := by decide +kernel
theorem dX4_keepsAllIfShown_27 : decode cX4_keepsAllIfShown 27 = .ok (.iload_n 1, 1) := by decide +kernel
theorem dX4_keepsAllIfShown_28 : decode cX4_keepsAllIfShown 28 = .ok (.iaload, 1) := by decide +kernel
theorem dX4_keepsAllIfShown_29 : decode cX4_keepsAllIfShown 29 = .ok (.iload_n 2, 1) := by decide +kernel
theorem dX4_keepsAllIfShown_30 : decode cX4_keepsAllIfShown 30 = .ok (.ior, 1) := by decide +kernel
theorem dX4_keepsAllIfShown_31 : decode cX4_keepsAllIfShown 31 = .ok (.invokevirtual 234, 3) := by decide +kernel
theorem dX4_keepsAllIfShown_34 : decode cX4_keepsAllIfShown 34 = .ok (.istore_n 3, 1) := by decide +kernel
theorem dX4_keepsAllIfShown_35 : decode cX4_keepsAllIfShown 35 = .ok (.iconst 0, 1) := by decide +kernel
theorem dX4_keepsAllIfShown_36 : decode cX4_keepsAllIfShown 36 = .ok (.istore 4, 2) := by decide +kernel
theorem dX4_keepsAllIfShown_38 : decode cX4_keepsAllIfShown 38 = .ok (.iload 4, 2) := by decide +kernel
theorem dX4_keepsAllIfShown_40 : decode cX4_keepsAllIfShown 40 = .ok (.iconst 1, 1) := by decide +kernel
theorem dX4_keepsAllIfShown_41 : decode cX4_keepsAllIfShown 41 = .ok (.if_icmp .gt 42, 3) := by decide +kernel
theorem dX4_keepsAllIfShown_44 : decode cX4_keepsAllIfShown 44 = .ok (.aload_n 0, 1) := by decide +kernel
theorem dX4_keepsAllIfShown_45 : decode cX4_keepsAllIfShown 45 = .ok (.aload_n 0, 1) := by decide +kernel
theorem dX4_keepsAllIfShown_46 : decode cX4_keepsAllIfShown 46 = .ok (.getfield 34, 3) := by decide +kernel
theorem dX4_keepsAllIfShown_49 : decode cX4_keepsAllIfShown 49 = .ok (.iload_n 1, 1) := by decide +kernel
theorem dX4_keepsAllIfShown_50 : decode cX4_keepsAllIfShown 50 = .ok (.iload 4, 2) := by decide +kernel
theorem dX4_keepsAllIfShown_52 : decode cX4_keepsAllIfShown 52 = .ok (.invokevirtual 131, 3) := by decide +kernel
theorem dX4_keepsAllIfShown_55 : decode cX4_keepsAllIfShown 55 = .ok (.istore 5, 2) := by decide +kernel
theorem dX4_keepsAllIfShown_57 : decode cX4_keepsAllIfShown 57 = .ok (.iload 5, 2) := by decide +kernel
theorem dX4_keepsAllIfShown_59 : decode cX4_keepsAllIfShown 59 = .ok (.iconst (-1), 1) := by decide +kernel
theorem dX4_keepsAllIfShown_60 : decode cX4_keepsAllIfShown 60 = .ok (.if_icmp .eq 17, 3) := by decide +kernel
theorem dX4_keepsAllIfShown_63 : decode cX4_keepsAllIfShown 63 = .ok (.iload 5, 2) := by decide +kernel
theorem dX4_keepsAllIfShown_65 : decode cX4_keepsAllIfShown 65 = .ok (.ifCond .eq 12, 3) := by decide +kernel
theorem dX4_keepsAllIfShown_68 : decode cX4_keepsAllIfShown 68 = .ok (.iload 5, 2) := by decide +kernel
theorem dX4_keepsAllIfShown_70 : decode cX4_keepsAllIfShown 70 = .ok (.iload_n 3, 1) := by decide +kernel
theorem dX4_keepsAllIfShown_71 : decode cX4_keepsAllIfShown 71 = .ok (.iand, 1) := by decide +kernel
theorem dX4_keepsAllIfShown_72 : decode cX4_keepsAllIfShown 72 = .ok (.ifCond .ne 5, 3) := by decide +kernel
theorem dX4_keepsAllIfShown_75 : decode cX4_keepsAllIfShown 75 = .ok (.iconst 0, 1) := by decide +kernel
theorem dX4_keepsAllIfShown_76 : decode cX4_keepsAllIfShown 76 = .ok (.ireturn, 1) := by decide +kernel
theorem dX4_keepsAllIfShown_77 : decode cX4_keepsAllIfShown 77 = .ok (.iinc 4 1, 3) := by decide +kernel
theorem dX4_keepsAllIfShown_80 : decode cX4_keepsAllIfShown 80 = .ok (.goto (-42), 3) := by decide +kernel
theorem dX4_keepsAllIfShown_83 : decode cX4_keepsAllIfShown 83 = .ok (.iconst 1, 1) := by decide +kernel
theorem dX4_keepsAllIfShown_84 : decode cX4_keepsAllIfShown 84 = .ok (.ireturn, 1) := by decide +kernel
theorem dX4_sixtiethsOfStep_0 : decode cX4_sixtiethsOfStep 0 = .ok (.iload_n 0, 1) := by decide +kernel
theorem dX4_sixtiethsOfStep_1 : decode cX4_sixtiethsOfStep 1 = .ok (.iconst (-1), 1) := by decide +kernel
theorem dX4_sixtiethsOfStep_2 : decode cX4_sixtiethsOfStep 2 = .ok (.if_icmp .eq 11, 3) := by decide +kernel
theorem dX4_sixtiethsOfStep_5 : decode cX4_sixtiethsOfStep 5 = .ok (.iload_n 0, 1) := by decide +kernel
theorem dX4_sixtiethsOfStep_6 : decode cX4_sixtiethsOfStep 6 = .ok (.iload_n 1, 1) := by decide +kernel
theorem dX4_sixtiethsOfStep_7 : decode cX4_sixtiethsOfStep 7 = .ok (.ishr, 1) := by decide +kernel
theorem dX4_sixtiethsOfStep_8 : decode cX4_sixtiethsOfStep 8 = .ok (.iconst 1, 1) := by decide +kernel
theorem dX4_sixtiethsOfStep_9 : decode cX4_sixtiethsOfStep 9 = .ok (.iand, 1) := by decide +kernel
theorem dX4_sixtiethsOfStep_10 : decode cX4_sixtiethsOfStep 10 = .ok (.ifCond .ne 5, 3) := by decide +kernel
theorem dX4_sixtiethsOfStep_13 : decode cX4_sixtiethsOfStep 13 = .ok (.iconst 0, 1) := by decide +kernel
theorem dX4_sixtiethsOfStep_14 : decode cX4_sixtiethsOfStep 14 = .ok (.ireturn, 1) := by decide +kernel
theorem dX4_sixtiethsOfStep_15 : decode cX4_sixtiethsOfStep 15 = .ok (.iload_n 0, 1) := by decide +kernel
theorem dX4_sixtiethsOfStep_16 : decode cX4_sixtiethsOfStep 16 = .ok (.invokestatic 152, 3) := by decide +kernel
theorem dX4_sixtiethsOfStep_19 : decode cX4_sixtiethsOfStep 19 = .ok (.istore_n 2, 1) := by decide +kernel
theorem dX4_sixtiethsOfStep_20 : decode cX4_sixtiethsOfStep 20 = .ok (.iload_n 2, 1) := by decide +kernel
theorem dX4_sixtiethsOfStep_21 : decode cX4_sixtiethsOfStep 21 = .ok (.ifCond .ne 7, 3) := by decide +kernel
theorem dX4_sixtiethsOfStep_24 : decode cX4_sixtiethsOfStep 24 = .ok (.iconst 0, 1) := by decide +kernel
theorem dX4_sixtiethsOfStep_25 : decode cX4_sixtiethsOfStep 25 = .ok (.goto 7, 3) := by decide +kernel
theorem dX4_sixtiethsOfStep_28 : decode cX4_sixtiethsOfStep 28 = .ok (.bipush 60, 2) := by decide +kernel
theorem dX4_sixtiethsOfStep_30 : decode cX4_sixtiethsOfStep 30 = .ok (.iload_n 2, 1) := by decide +kernel
theorem dX4_sixtiethsOfStep_31 : decode cX4_sixtiethsOfStep 31 = .ok (.idiv, 1) := by decide +kernel
theorem dX4_sixtiethsOfStep_32 : decode cX4_sixtiethsOfStep 32 = .ok (.ireturn, 1) := by decide +kernel
theorem dX4_worthOfString_0 : decode cX4_worthOfString 0 = .ok (.iconst 0, 1) := by decide +kernel
theorem dX4_worthOfString_1 : decode cX4_worthOfString 1 = .ok (.istore_n 1, 1) := by decide +kernel
theorem dX4_worthOfString_2 : decode cX4_worthOfString 2 = .ok (.iconst 0, 1) := by decide +kernel
theorem dX4_worthOfString_3 : decode cX4_worthOfString 3 = .ok (.istore_n 2, 1) := by decide +kernel
theorem dX4_worthOfString_4 : decode cX4_worthOfString 4 = .ok (.iload_n 2, 1) := by decide +kernel
theorem dX4_worthOfString_5 : decode cX4_worthOfString 5 = .ok (.aload_n 0, 1) := by decide +kernel
theorem dX4_worthOfString_6 : decode cX4_worthOfString 6 = .ok (.getfield 27, 3) := by decide +kernel
theorem dX4_worthOfString_9 : decode cX4_worthOfString 9 = .ok (.if_icmp .ge 47, 3) := by decide +kernel
theorem dX4_worthOfString_12 : decode cX4_worthOfString 12 = .ok (.aload_n 0, 1) := by decide +kernel
theorem dX4_worthOfString_13 : decode cX4_worthOfString 13 = .ok (.aload_n 0, 1) := by decide +kernel
theorem dX4_worthOfString_14 : decode cX4_worthOfString 14 = .ok (.getfield 34, 3) := by decide +kernel
theorem dX4_worthOfString_17 : decode cX4_worthOfString 17 = .ok (.iload_n 2, 1) := by decide +kernel
theorem dX4_worthOfString_18 : decode cX4_worthOfString 18 = .ok (.iconst 1, 1) := by decide +kernel
theorem dX4_worthOfString_19 : decode cX4_worthOfString 19 = .ok (.invokevirtual 131, 3) := by decide +kernel
theorem dX4_worthOfString_22 : decode cX4_worthOfString 22 = .ok (.istore_n 3, 1) := by decide +kernel
theorem dX4_worthOfString_23 : decode cX4_worthOfString 23 = .ok (.iload_n 3, 1) := by decide +kernel
theorem dX4_worthOfString_24 : decode cX4_worthOfString 24 = .ok (.iconst (-1), 1) := by decide +kernel
theorem dX4_worthOfString_25 : decode cX4_worthOfString 25 = .ok (.if_icmp .eq 25, 3) := by decide +kernel
theorem dX4_worthOfString_28 : decode cX4_worthOfString 28 = .ok (.iload_n 1, 1) := by decide +kernel
theorem dX4_worthOfString_29 : decode cX4_worthOfString 29 = .ok (.iload_n 3, 1) := by decide +kernel
theorem dX4_worthOfString_30 : decode cX4_worthOfString 30 = .ok (.aload_n 0, 1) := by decide +kernel
theorem dX4_worthOfString_31 : decode cX4_worthOfString 31 = .ok (.aload_n 0, 1) := by decide +kernel
theorem dX4_worthOfString_32 : decode cX4_worthOfString 32 = .ok (.getfield 34, 3) := by decide +kernel
theorem dX4_worthOfString_35 : decode cX4_worthOfString 35 = .ok (.iload_n 2, 1) := by decide +kernel
theorem dX4_worthOfString_36 : decode cX4_worthOfString 36 = .ok (.invokevirtual 123, 3) := by decide +kernel
theorem dX4_worthOfString_39 : decode cX4_worthOfString 39 = .ok (.iand, 1) := by decide +kernel
theorem dX4_worthOfString_40 : decode cX4_worthOfString 40 = .ok (.ifCond .ne 7, 3) := by decide +kernel
theorem dX4_worthOfString_43 : decode cX4_worthOfString 43 = .ok (.iconst 1, 1) := by decide +kernel
theorem dX4_worthOfString_44 : decode cX4_worthOfString 44 = .ok (.goto 4, 3) := by decide +kernel
theorem dX4_worthOfString_47 : decode cX4_worthOfString 47 = .ok (.iconst (-1), 1) := by decide +kernel
theorem dX4_worthOfString_48 : decode cX4_worthOfString 48 = .ok (.iadd, 1) := by decide +kernel
theorem dX4_worthOfString_49 : decode cX4_worthOfString 49 = .ok (.istore_n 1, 1) := by decide +kernel
theorem dX4_worthOfString_50 : decode cX4_worthOfString 50 = .ok (.iinc 2 1, 3) := by decide +kernel
theorem dX4_worthOfString_53 : decode cX4_worthOfString 53 = .ok (.goto (-49), 3) := by decide +kernel
theorem dX4_worthOfString_56 : decode cX4_worthOfString 56 = .ok (.iload_n 1, 1) := by decide +kernel
theorem dX4_worthOfString_57 : decode cX4_worthOfString 57 = .ok (.ireturn, 1) := by decide +kernel
theorem dX4_gain_0 : decode cX4_gain 0 = .ok (.iload_n 0, 1) := by decide +kernel
theorem dX4_gain_1 : decode cX4_gain 1 = .ok (.iconst 1, 1) := by decide +kernel
theorem dX4_gain_2 : decode cX4_gain 2 = .ok (.if_icmp .ne 16, 3) := by decide +kernel
theorem dX4_gain_5 : decode cX4_gain 5 = .ok (.iload_n 1, 1) := by decide +kernel
theorem dX4_gain_6 : decode cX4_gain 6 = .ok (.iconst 1, 1) := by decide +kernel
theorem dX4_gain_7 : decode cX4_gain 7 = .ok (.if_icmp .ne 9, 3) := by decide +kernel
theorem dX4_gain_10 : decode cX4_gain 10 = .ok (.iload_n 2, 1) := by decide +kernel
theorem dX4_gain_11 : decode cX4_gain 11 = .ok (.iconst 2, 1) := by decide +kernel
theorem dX4_gain_12 : decode cX4_gain 12 = .ok (.idiv, 1) := by decide +kernel
theorem dX4_gain_13 : decode cX4_gain 13 = .ok (.goto 4, 3) := by decide +kernel
theorem dX4_gain_16 : decode cX4_gain 16 = .ok (.iload_n 2, 1) := by decide +kernel
theorem dX4_gain_17 : decode cX4_gain 17 = .ok (.ireturn, 1) := by decide +kernel
theorem dX4_gain_18 : decode cX4_gain 18 = .ok (.iload_n 1, 1) := by decide +kernel
theorem dX4_gain_19 : decode cX4_gain 19 = .ok (.iconst 1, 1) := by decide +kernel
theorem dX4_gain_20 : decode cX4_gain 20 = .ok (.if_icmp .ne 7, 3) := by decide +kernel
theorem dX4_gain_23 : decode cX4_gain 23 = .ok (.iconst (-1), 1) := by decide +kernel
theorem dX4_gain_24 : decode cX4_gain 24 = .ok (.goto 4, 3) := by decide +kernel
theorem dX4_gain_27 : decode cX4_gain 27 = .ok (.iconst 0, 1) := by decide +kernel
theorem dX4_gain_28 : decode cX4_gain 28 = .ok (.ireturn, 1) := by decide +kernel
theorem dX4_isContent_0 : decode cX4_isContent 0 = .ok (.iload_n 0, 1) := by decide +kernel
theorem dX4_isContent_1 : decode cX4_isContent 1 = .ok (.iload_n 1, 1) := by decide +kernel
theorem dX4_isContent_2 : decode cX4_isContent 2 = .ok (.iload_n 2, 1) := by decide +kernel
theorem dX4_isContent_3 : decode cX4_isContent 3 = .ok (.invokestatic 254, 3) := by decide +kernel
theorem dX4_isContent_6 : decode cX4_isContent 6 = .ok (.iconst 1, 1) := by decide +kernel
theorem dX4_isContent_7 : decode cX4_isContent 7 = .ok (.iload_n 0, 1) := by decide +kernel
theorem dX4_isContent_8 : decode cX4_isContent 8 = .ok (.isub, 1) := by decide +kernel
theorem dX4_isContent_9 : decode cX4_isContent 9 = .ok (.iload_n 1, 1) := by decide +kernel
theorem dX4_isContent_10 : decode cX4_isContent 10 = .ok (.iload_n 2, 1) := by decide +kernel
theorem dX4_isContent_11 : decode cX4_isContent 11 = .ok (.invokestatic 254, 3) := by decide +kernel
theorem dX4_isContent_14 : decode cX4_isContent 14 = .ok (.if_icmp .lt 7, 3) := by decide +kernel
theorem dX4_isContent_17 : decode cX4_isContent 17 = .ok (.iconst 1, 1) := by decide +kernel
theorem dX4_isContent_18 : decode cX4_isContent 18 = .ok (.goto 4, 3) := by decide +kernel
theorem dX4_isContent_21 : decode cX4_isContent 21 = .ok (.iconst 0, 1) := by decide +kernel
theorem dX4_isContent_22 : decode cX4_isContent 22 = .ok (.ireturn, 1) := by decide +kernel
theorem dX4_tenthsToBalk_0 : decode cX4_tenthsToBalk 0 = .ok (.aload_n 0, 1) := by decide +kernel
theorem dX4_tenthsToBalk_1 : decode cX4_tenthsToBalk 1 = .ok (.aload_n 0, 1) := by decide +kernel
theorem dX4_tenthsToBalk_2 : decode cX4_tenthsToBalk 2 = .ok (.getfield 34, 3) := by decide +kernel
theorem dX4_tenthsToBalk_5 : decode cX4_tenthsToBalk 5 = .ok (.iload_n 1, 1) := by decide +kernel
theorem dX4_tenthsToBalk_6 : decode cX4_tenthsToBalk 6 = .ok (.iload_n 2, 1) := by decide +kernel
theorem dX4_tenthsToBalk_7 : decode cX4_tenthsToBalk 7 = .ok (.invokevirtual 131, 3) := by decide +kernel
theorem dX4_tenthsToBalk_10 : decode cX4_tenthsToBalk 10 = .ok (.istore 4, 2) := by decide +kernel
theorem dX4_tenthsToBalk_12 : decode cX4_tenthsToBalk 12 = .ok (.iload 4, 2) := by decide +kernel
theorem dX4_tenthsToBalk_14 : decode cX4_tenthsToBalk 14 = .ok (.iconst (-1), 1) := by decide +kernel
theorem dX4_tenthsToBalk_15 : decode cX4_tenthsToBalk 15 = .ok (.if_icmp .eq 11, 3) := by decide +kernel
theorem dX4_tenthsToBalk_18 : decode cX4_tenthsToBalk 18 = .ok (.aload_n 0, 1) := by decide +kernel
theorem dX4_tenthsToBalk_19 : decode cX4_tenthsToBalk 19 = .ok (.iload_n 1, 1) := by decide +kernel
theorem dX4_tenthsToBalk_20 : decode cX4_tenthsToBalk 20 = .ok (.invokevirtual 113, 3) := by decide +kernel
theorem dX4_tenthsToBalk_23 : decode cX4_tenthsToBalk 23 = .ok (.ifCond .ne 5, 3) := by decide +kernel
theorem dX4_tenthsToBalk_26 : decode cX4_tenthsToBalk 26 = .ok (.iconst 0, 1) := by decide +kernel
theorem dX4_tenthsToBalk_27 : decode cX4_tenthsToBalk 27 = .ok (.ireturn, 1) := by decide +kernel
theorem dX4_tenthsToBalk_28 : decode cX4_tenthsToBalk 28 = .ok (.iload 4, 2) := by decide +kernel
theorem dX4_tenthsToBalk_30 : decode cX4_tenthsToBalk 30 = .ok (.aload_n 0, 1) := by decide +kernel
theorem dX4_tenthsToBalk_31 : decode cX4_tenthsToBalk 31 = .ok (.aload_n 0, 1) := by decide +kernel
theorem dX4_tenthsToBalk_32 : decode cX4_tenthsToBalk 32 = .ok (.getfield 34, 3) := by decide +kernel
theorem dX4_tenthsToBalk_35 : decode cX4_tenthsToBalk 35 = .ok (.iload_n 1, 1) := by decide +kernel
theorem dX4_tenthsToBalk_36 : decode cX4_tenthsToBalk 36 = .ok (.invokevirtual 123, 3) := by decide +kernel
theorem dX4_tenthsToBalk_39 : decode cX4_tenthsToBalk 39 = .ok (.iand, 1) := by decide +kernel
theorem dX4_tenthsToBalk_40 : decode cX4_tenthsToBalk 40 = .ok (.ifCond .eq 7, 3) := by decide +kernel
theorem dX4_tenthsToBalk_43 : decode cX4_tenthsToBalk 43 = .ok (.iconst 1, 1) := by decide +kernel
theorem dX4_tenthsToBalk_44 : decode cX4_tenthsToBalk 44 = .ok (.goto 4, 3) := by decide +kernel
theorem dX4_tenthsToBalk_47 : decode cX4_tenthsToBalk 47 = .ok (.iconst 0, 1) := by decide +kernel
theorem dX4_tenthsToBalk_48 : decode cX4_tenthsToBalk 48 = .ok (.istore 5, 2) := by decide +kernel
theorem dX4_tenthsToBalk_50 : decode cX4_tenthsToBalk 50 = .ok (.iload 4, 2) := by decide +kernel
theorem dX4_tenthsToBalk_52 : decode cX4_tenthsToBalk 52 = .ok (.aload_n 0, 1) := by decide +kernel
theorem dX4_tenthsToBalk_53 : decode cX4_tenthsToBalk 53 = .ok (.aload_n 0, 1) := by decide +kernel
theorem dX4_tenthsToBalk_54 : decode cX4_tenthsToBalk 54 = .ok (.getfield 34, 3) := by decide +kernel
theorem dX4_tenthsToBalk_57 : decode cX4_tenthsToBalk 57 = .ok (.getfield 117, 3) := by decide +kernel
theorem dX4_tenthsToBalk_60 : decode cX4_tenthsToBalk 60 = .ok (.iload_n 1, 1) := by decide +kernel
theorem dX4_tenthsToBalk_61 : decode cX4_tenthsToBalk 61 = .ok (.iaload, 1) := by decide +kernel
theorem dX4_tenthsToBalk_62 : decode cX4_tenthsToBalk 62 = .ok (.iconst 0, 1) := by decide +kernel
theorem dX4_tenthsToBalk_63 : decode cX4_tenthsToBalk 63 = .ok (.invokevirtual 234, 3) := by decide +kernel
theorem dX4_tenthsToBalk_66 : decode cX4_tenthsToBalk 66 = .ok (.iand, 1) := by decide +kernel
theorem dX4_tenthsToBalk_67 : decode cX4_tenthsToBalk 67 = .ok (.ifCond .eq 7, 3) := by decide +kernel
theorem dX4_tenthsToBalk_70 : decode cX4_tenthsToBalk 70 = .ok (.iconst 1, 1) := by decide +kernel
theorem dX4_tenthsToBalk_71 : decode cX4_tenthsToBalk 71 = .ok (.goto 4, 3) := by decide +kernel
theorem dX4_tenthsToBalk_74 : decode cX4_tenthsToBalk 74 = .ok (.iconst 0, 1) := by decide +kernel
theorem dX4_tenthsToBalk_75 : decode cX4_tenthsToBalk 75 = .ok (.istore 6, 2) := by decide +kernel
theorem dX4_tenthsToBalk_77 : decode cX4_tenthsToBalk 77 = .ok (.iload 5, 2) := by decide +kernel
theorem dX4_tenthsToBalk_79 : decode cX4_tenthsToBalk 79 = .ok (.ifCond .eq 10, 3) := by decide +kernel
theorem dX4_tenthsToBalk_82 : decode cX4_tenthsToBalk 82 = .ok (.bipush 10, 2) := by decide +kernel
theorem dX4_tenthsToBalk_84 : decode cX4_tenthsToBalk 84 = .ok (.iload_n 3, 1) := by decide +kernel
theorem dX4_tenthsToBalk_85 : decode cX4_tenthsToBalk 85 = .ok (.isub, 1) := by decide +kernel
theorem dX4_tenthsToBalk_86 : decode cX4_tenthsToBalk 86 = .ok (.goto 4, 3) := by decide +kernel
theorem dX4_tenthsToBalk_89 : decode cX4_tenthsToBalk 89 = .ok (.iconst 0, 1) := by decide +kernel
theorem dX4_tenthsToBalk_90 : decode cX4_tenthsToBalk 90 = .ok (.iload 6, 2) := by decide +kernel
theorem dX4_tenthsToBalk_92 : decode cX4_tenthsToBalk 92 = .ok (.ifCond .eq 7, 3) := by decide +kernel
theorem dX4_tenthsToBalk_95 : decode cX4_tenthsToBalk 95 = .ok (.iload_n 3, 1) := by decide +kernel
theorem dX4_tenthsToBalk_96 : decode cX4_tenthsToBalk 96 = .ok (.goto 4, 3) := by decide +kernel
theorem dX4_tenthsToBalk_99 : decode cX4_tenthsToBalk 99 = .ok (.iconst 0, 1) := by decide +kernel
theorem dX4_tenthsToBalk_100 : decode cX4_tenthsToBalk 100 = .ok (.iadd, 1) := by decide +kernel
theorem dX4_tenthsToBalk_101 : decode cX4_tenthsToBalk 101 = .ok (.ireturn, 1) := by decide +kernel
theorem dX4_tallyMule_0 : decode cX4_tallyMule 0 = .ok (.aload_n 0, 1) := by decide +kernel
theorem dX4_tallyMule_1 : decode cX4_tallyMule 1 = .ok (.getfield 65, 3) := by decide +kernel
theorem dX4_tallyMule_4 : decode cX4_tallyMule 4 = .ok (.arraylength, 1) := by decide +kernel
theorem dX4_tallyMule_5 : decode cX4_tallyMule 5 = .ok (.iconst 1, 1) := by decide +kernel
theorem dX4_tallyMule_6 : decode cX4_tallyMule 6 = .ok (.isub, 1) := by decide +kernel
theorem dX4_tallyMule_7 : decode cX4_tallyMule 7 = .ok (.istore_n 2, 1) := by decide +kernel
theorem dX4_tallyMule_8 : decode cX4_tallyMule 8 = .ok (.iload_n 2, 1) := by decide +kernel
theorem dX4_tallyMule_9 : decode cX4_tallyMule 9 = .ok (.ifCond .le 37, 3) := by decide +kernel
theorem dX4_tallyMule_12 : decode cX4_tallyMule 12 = .ok (.aload_n 0, 1) := by decide +kernel
theorem dX4_tallyMule_13 : decode cX4_tallyMule 13 = .ok (.getfield 65, 3) := by decide +kernel
theorem dX4_tallyMule_16 : decode cX4_tallyMule 16 = .ok (.iload_n 2, 1) := by decide +kernel
theorem dX4_tallyMule_17 : decode cX4_tallyMule 17 = .ok (.aload_n 0, 1) := by decide +kernel
theorem dX4_tallyMule_18 : decode cX4_tallyMule 18 = .ok (.getfield 65, 3) := by decide +kernel
theorem dX4_tallyMule_21 : decode cX4_tallyMule 21 = .ok (.iload_n 2, 1) := by decide +kernel
theorem dX4_tallyMule_22 : decode cX4_tallyMule 22 = .ok (.iaload, 1) := by decide +kernel
theorem dX4_tallyMule_23 : decode cX4_tallyMule 23 = .ok (.bipush 10, 2) := by decide +kernel
theorem dX4_tallyMule_25 : decode cX4_tallyMule 25 = .ok (.iload_n 1, 1) := by decide +kernel
theorem dX4_tallyMule_26 : decode cX4_tallyMule 26 = .ok (.isub, 1) := by decide +kernel
theorem dX4_tallyMule_27 : decode cX4_tallyMule 27 = .ok (.imul, 1) := by decide +kernel
theorem dX4_tallyMule_28 : decode cX4_tallyMule 28 = .ok (.aload_n 0, 1) := by decide +kernel
theorem dX4_tallyMule_29 : decode cX4_tallyMule 29 = .ok (.getfield 65, 3) := by decide +kernel
theorem dX4_tallyMule_32 : decode cX4_tallyMule 32 = .ok (.iload_n 2, 1) := by decide +kernel
theorem dX4_tallyMule_33 : decode cX4_tallyMule 33 = .ok (.iconst 1, 1) := by decide +kernel
theorem dX4_tallyMule_34 : decode cX4_tallyMule 34 = .ok (.isub, 1) := by decide +kernel
theorem dX4_tallyMule_35 : decode cX4_tallyMule 35 = .ok (.iaload, 1) := by decide +kernel
theorem dX4_tallyMule_36 : decode cX4_tallyMule 36 = .ok (.iload_n 1, 1) := by decide +kernel
theorem dX4_tallyMule_37 : decode cX4_tallyMule 37 = .ok (.imul, 1) := by decide +kernel
theorem dX4_tallyMule_38 : decode cX4_tallyMule 38 = .ok (.iadd, 1) := by decide +kernel
theorem dX4_tallyMule_39 : decode cX4_tallyMule 39 = .ok (.iastore, 1) := by decide +kernel
theorem dX4_tallyMule_40 : decode cX4_tallyMule 40 = .ok (.iinc 2 (-1), 3) := by decide +kernel
theorem dX4_tallyMule_43 : decode cX4_tallyMule 43 = .ok (.goto (-35), 3) := by decide +kernel
theorem dX4_tallyMule_46 : decode cX4_tallyMule 46 = .ok (.aload_n 0, 1) := by decide +kernel
theorem dX4_tallyMule_47 : decode cX4_tallyMule 47 = .ok (.getfield 65, 3) := by decide +kernel
theorem dX4_tallyMule_50 : decode cX4_tallyMule 50 = .ok (.iconst 0, 1) := by decide +kernel
theorem dX4_tallyMule_51 : decode cX4_tallyMule 51 = .ok (.dup2, 1) := by decide +kernel
theorem dX4_tallyMule_52 : decode cX4_tallyMule 52 = .ok (.iaload, 1) := by decide +kernel
theorem dX4_tallyMule_53 : decode cX4_tallyMule 53 = .ok (.bipush 10, 2) := by decide +kernel
theorem dX4_tallyMule_55 : decode cX4_tallyMule 55 = .ok (.iload_n 1, 1) := by decide +kernel
theorem dX4_tallyMule_56 : decode cX4_tallyMule 56 = .ok (.isub, 1) := by decide +kernel
theorem dX4_tallyMule_57 : decode cX4_tallyMule 57 = .ok (.imul, 1) := by decide +kernel
theorem dX4_tallyMule_58 : decode cX4_tallyMule 58 = .ok (.iastore, 1) := by decide +kernel
theorem dX4_tallyMule_59 : decode cX4_tallyMule 59 = .ok (.return_, 1) := by decide +kernel
theorem dX4_fractionPart_0 : decode cX4_fractionPart 0 = .ok (.iload_n 1, 1) := by decide +kernel
theorem dX4_fractionPart_1 : decode cX4_fractionPart 1 = .ok (.istore_n 3, 1) := by decide +kernel
theorem dX4_fractionPart_2 : decode cX4_fractionPart 2 = .ok (.iload_n 0, 1) := by decide +kernel
theorem dX4_fractionPart_3 : decode cX4_fractionPart 3 = .ok (.istore 4, 2) := by decide +kernel
theorem dX4_fractionPart_5 : decode cX4_fractionPart 5 = .ok (.iconst 0, 1) := by decide +kernel
theorem dX4_fractionPart_6 : decode cX4_fractionPart 6 = .ok (.istore 5, 2) := by decide +kernel
theorem dX4_fractionPart_8 : decode cX4_fractionPart 8 = .ok (.iload 5, 2) := by decide +kernel
theorem dX4_fractionPart_10 : decode cX4_fractionPart 10 = .ok (.bipush 100, 2) := by decide +kernel
theorem dX4_fractionPart_12 : decode cX4_fractionPart 12 = .ok (.if_icmp .ge 27, 3) := by decide +kernel
theorem dX4_fractionPart_15 : decode cX4_fractionPart 15 = .ok (.iload 4, 2) := by decide +kernel
theorem dX4_fractionPart_17 : decode cX4_fractionPart 17 = .ok (.ifCond .eq 22, 3) := by decide +kernel
theorem dX4_fractionPart_20 : decode cX4_fractionPart 20 = .ok (.iload_n 3, 1) := by decide +kernel
theorem dX4_fractionPart_21 : decode cX4_fractionPart 21 = .ok (.iload 4, 2) := by decide +kernel
theorem dX4_fractionPart_23 : decode cX4_fractionPart 23 = .ok (.irem, 1) := by decide +kernel
theorem dX4_fractionPart_24 : decode cX4_fractionPart 24 = .ok (.istore 6, 2) := by decide +kernel
theorem dX4_fractionPart_26 : decode cX4_fractionPart 26 = .ok (.iload 4, 2) := by decide +kernel
theorem dX4_fractionPart_28 : decode cX4_fractionPart 28 = .ok (.istore_n 3, 1) := by decide +kernel
theorem dX4_fractionPart_29 : decode cX4_fractionPart 29 = .ok (.iload 6, 2) := by decide +kernel
theorem dX4_fractionPart_31 : decode cX4_fractionPart 31 = .ok (.istore 4, 2) := by decide +kernel
theorem dX4_fractionPart_33 : decode cX4_fractionPart 33 = .ok (.iinc 5 1, 3) := by decide +kernel
theorem dX4_fractionPart_36 : decode cX4_fractionPart 36 = .ok (.goto (-28), 3) := by decide +kernel
theorem dX4_fractionPart_39 : decode cX4_fractionPart 39 = .ok (.iload_n 3, 1) := by decide +kernel
theorem dX4_fractionPart_40 : decode cX4_fractionPart 40 = .ok (.ifCond .ne 5, 3) := by decide +kernel
theorem dX4_fractionPart_43 : decode cX4_fractionPart 43 = .ok (.iconst 0, 1) := by decide +kernel
theorem dX4_fractionPart_44 : decode cX4_fractionPart 44 = .ok (.ireturn, 1) := by decide +kernel
theorem dX4_fractionPart_45 : decode cX4_fractionPart 45 = .ok (.iload_n 2, 1) := by decide +kernel
theorem dX4_fractionPart_46 : decode cX4_fractionPart 46 = .ok (.ifCond .eq 9, 3) := by decide +kernel
theorem dX4_fractionPart_49 : decode cX4_fractionPart 49 = .ok (.iload_n 0, 1) := by decide +kernel
theorem dX4_fractionPart_50 : decode cX4_fractionPart 50 = .ok (.iload_n 3, 1) := by decide +kernel
theorem dX4_fractionPart_51 : decode cX4_fractionPart 51 = .ok (.idiv, 1) := by decide +kernel
theorem dX4_fractionPart_52 : decode cX4_fractionPart 52 = .ok (.goto 6, 3) := by decide +kernel
theorem dX4_fractionPart_55 : decode cX4_fractionPart 55 = .ok (.iload_n 1, 1) := by decide +kernel
theorem dX4_fractionPart_56 : decode cX4_fractionPart 56 = .ok (.iload_n 3, 1) := by decide +kernel
theorem dX4_fractionPart_57 : decode cX4_fractionPart 57 = .ok (.idiv, 1) := by decide +kernel
theorem dX4_fractionPart_58 : decode cX4_fractionPart 58 = .ok (.ireturn, 1) := by decide +kernel
theorem dX5_init_0 : decode cX5_init 0 = .ok (.aload_n 0, 1) := by decide +kernel
theorem dX5_init_1 : decode cX5_init 1 = .ok (.invokespecial 1, 3) := by decide +kernel
theorem dX5_init_4 : decode cX5_init 4 = .ok (.aload_n 0, 1) := by decide +kernel
theorem dX5_init_5 : decode cX5_init 5 = .ok (.bipush 48, 2) := by decide +kernel
theorem dX5_init_7 : decode cX5_init 7 = .ok (.newarray .int, 2) := by decide +kernel
theorem dX5_init_9 : decode cX5_init 9 = .ok (.putfield 7, 3) := by decide +kernel
theorem dX5_init_12 : decode cX5_init 12 = .ok (.aload_n 0, 1) := by decide +kernel
theorem dX5_init_13 : decode cX5_init 13 = .ok (.iconst 5, 1) := by decide +kernel
theorem dX5_init_14 : decode cX5_init 14 = .ok (.newarray .int, 2) := by decide +kernel
theorem dX5_init_16 : decode cX5_init 16 = .ok (.putfield 13, 3) := by decide +kernel
theorem dX5_init_19 : decode cX5_init 19 = .ok (.aload_n 0, 1) := by decide +kernel
theorem dX5_init_20 : decode cX5_init 20 = .ok (.iconst 5, 1) := by decide +kernel
theorem dX5_init_21 : decode cX5_init 21 = .ok (.newarray .int, 2) := by decide +kernel
theorem dX5_init_23 : decode cX5_init 23 = .ok (.putfield 16, 3) := by decide +kernel
theorem dX5_init_26 : decode cX5_init 26 = .ok (.aload_n 0, 1) := by decide +kernel
theorem dX5_init_27 : decode cX5_init 27 = .ok (.iconst 5, 1) := by decide +kernel
theorem dX5_init_28 : decode cX5_init 28 = .ok (.newarray .int, 2) := by decide +kernel
theorem dX5_init_30 : decode cX5_init 30 = .ok (.putfield 19, 3) := by decide +kernel
theorem dX5_init_33 : decode cX5_init 33 = .ok (.aload_n 0, 1) := by decide +kernel
theorem dX5_init_34 : decode cX5_init 34 = .ok (.iconst 5, 1) := by decide +kernel
theorem dX5_init_35 : decode cX5_init 35 = .ok (.newarray .int, 2) := by decide +kernel
theorem dX5_init_37 : decode cX5_init 37 = .ok (.putfield 22, 3) := by decide +kernel
theorem dX5_init_40 : decode cX5_init 40 = .ok (.aload_n 0, 1) := by decide +kernel
theorem dX5_init_41 : decode cX5_init 41 = .ok (.bipush 15, 2) := by decide +kernel
theorem dX5_init_43 : decode cX5_init 43 = .ok (.newarray .int, 2) := by decide +kernel
theorem dX5_init_45 : decode cX5_init 45 = .ok (.putfield 25, 3) := by decide +kernel
theorem dX5_init_48 : decode cX5_init 48 = .ok (.aload_n 0, 1) := by decide +kernel
theorem dX5_init_49 : decode cX5_init 49 = .ok (.bipush 15, 2) := by decide +kernel
theorem dX5_init_51 : decode cX5_init 51 = .ok (.newarray .int, 2) := by decide +kernel
theorem dX5_init_53 : decode cX5_init 53 = .ok (.putfield 28, 3) := by decide +kernel
theorem dX5_init_56 : decode cX5_init 56 = .ok (.aload_n 0, 1) := by decide +kernel
theorem dX5_init_57 : decode cX5_init 57 = .ok (.bipush 17, 2) := by decide +kernel
theorem dX5_init_59 : decode cX5_init 59 = .ok (.newarray .int, 2) := by decide +kernel
theorem dX5_init_61 : decode cX5_init 61 = .ok (.putfield 31, 3) := by decide +kernel
theorem dX5_init_64 : decode cX5_init 64 = .ok (.aload_n 0, 1) := by decide +kernel
theorem dX5_init_65 : decode cX5_init 65 = .ok (.bipush 17, 2) := by decide +kernel
theorem dX5_init_67 : decode cX5_init 67 = .ok (.newarray .int, 2) := by decide +kernel
theorem dX5_init_69 : decode cX5_init 69 = .ok (.putfield 34, 3) := by decide +kernel
theorem dX5_init_72 : decode cX5_init 72 = .ok (.aload_n 0, 1) := by decide +kernel
theorem dX5_init_73 : decode cX5_init 73 = .ok (.sipush 238, 3) := by decide +kernel
theorem dX5_init_76 : decode cX5_init 76 = .ok (.newarray .int, 2) := by decide +kernel
theorem dX5_init_78 : decode cX5_init 78 = .ok (.putfield 37, 3) := by decide +kernel
theorem dX5_init_81 : decode cX5_init 81 = .ok (.aload_n 0, 1) := by decide +kernel
theorem dX5_init_82 : decode cX5_init 82 = .ok (.bipush 34, 2) := by decide +kernel
theorem dX5_init_84 : decode cX5_init 84 = .ok (.newarray .int, 2) := by decide +kernel
theorem dX5_init_86 : decode cX5_init 86 = .ok (.putfield 40, 3) := by decide +kernel
theorem dX5_init_89 : decode cX5_init 89 = .ok (.aload_n 0, 1) := by decide +kernel
theorem dX5_init_90 : decode cX5_init 90 = .ok (.iconst 2, 1) := by decide +kernel
theorem dX5_init_91 : decode cX5_init 91 = .ok (.newarray .boolean, 2) := by decide +kernel
theorem dX5_init_93 : decode cX5_init 93 = .ok (.putfield 43, 3) := by decide +kernel
theorem dX5_init_96 : decode cX5_init 96 = .ok (.aload_n 0, 1) := by decide +kernel
theorem dX5_init_97 : decode cX5_init 97 = .ok (.bipush 6, 2) := by decide +kernel
theorem dX5_init_99 : decode cX5_init 99 = .ok (.newarray .int, 2) := by decide +kernel
theorem dX5_init_101 : decode cX5_init 101 = .ok (.putfield 47, 3) := by decide +kernel
theorem dX5_init_104 : decode cX5_init 104 = .ok (.aload_n 0, 1) := by decide +kernel
theorem dX5_init_105 : decode cX5_init 105 = .ok (.bipush 6, 2) := by decide +kernel
theorem dX5_init_107 : decode cX5_init 107 = .ok (.newarray .int, 2) := by decide +kernel
theorem dX5_init_109 : decode cX5_init 109 = .ok (.putfield 50, 3) := by decide +kernel
theorem dX5_init_112 : decode cX5_init 112 = .ok (.aload_n 0, 1) := by decide +kernel
theorem dX5_init_113 : decode cX5_init 113 = .ok (.bipush 6, 2) := by decide +kernel
theorem dX5_init_115 : decode cX5_init 115 = .ok (.newarray .int, 2) := by decide +kernel
theorem dX5_init_117 : decode cX5_init 117 = .ok (.putfield 53, 3) := by decide +kernel
theorem dX5_init_120 : decode cX5_init 120 = .ok (.aload_n 0, 1) := by decide +kernel
theorem dX5_init_121 : decode cX5_init 121 = .ok (.bipush 6, 2) := by decide +kernel
theorem dX5_init_123 : decode cX5_init 123 = .ok (.newarray .int, 2) := by decide +kernel
theorem dX5_init_125 : decode cX5_init 125 = .ok (.putfield 56, 3) := by decide +kernel
theorem dX5_init_128 : decode cX5_init 128 = .ok (.aload_n 0, 1) := by decide +kernel
theorem dX5_init_129 : decode cX5_init 129 = .ok (.bipush 6, 2) := by decide +kernel
theorem dX5_init_131 : decode cX5_init 131 = .ok (.newarray .int, 2) := by decide +kernel
theorem dX5_init_133 : decode cX5_init 133 = .ok (.putfield 59, 3) := by decide +kernel
theorem dX5_init_136 : decode cX5_init 136 = .ok (.aload_n 0, 1) := by decide +kernel
theorem dX5_init_137 : decode cX5_init 137 = .ok (.bipush 10, 2) := by decide +kernel
theorem dX5_init_139 : decode cX5_init 139 = .ok (.newarray .int, 2) := by decide +kernel
theorem dX5_init_141 : decode cX5_init 141 = .ok (.putfield 62, 3) := by decide +kernel
theorem dX5_init_144 : decode cX5_init 144 = .ok (.aload_n 0, 1) := by decide +kernel
theorem dX5_init_145 : decode cX5_init 145 = .ok (.bipush 32, 2) := by decide +kernel
theorem dX5_init_147 : decode cX5_init 147 = .ok (.newarray .int, 2) := by decide +kernel
theorem dX5_init_149 : decode cX5_init 149 = .ok (.putfield 65, 3) := by decide +kernel
theorem dX5_init_152 : decode cX5_init 152 = .ok (.return_, 1) := by decide +kernel
theorem dX5_in_0 : decode cX5_in 0 = .ok (.lload_n 0, 1) := by decide +kernel
theorem dX5_in_1 : decode cX5_in 1 = .ok (.lload_n 2, 1) := by decide +kernel
theorem dX5_in_2 : decode cX5_in 2 = .ok (.lcmp, 1) := by decide +kernel
theorem dX5_in_3 : decode cX5_in 3 = .ok (.ifCond .lt 14, 3) := by decide +kernel
theorem dX5_in_6 : decode cX5_in 6 = .ok (.lload_n 0, 1) := by decide +kernel
theorem dX5_in_7 : decode cX5_in 7 = .ok (.lload 4, 2) := by decide +kernel
theorem dX5_in_9 : decode cX5_in 9 = .ok (.lcmp, 1) := by decide +kernel
theorem dX5_in_10 : decode cX5_in 10 = .ok (.ifCond .gt 7, 3) := by decide +kernel
theorem dX5_in_13 : decode cX5_in 13 = .ok (.iconst 1, 1) := by decide +kernel
theorem dX5_in_14 : decode cX5_in 14 = .ok (.goto 4, 3) := by decide +kernel
theorem dX5_in_17 : decode cX5_in 17 = .ok (.iconst 0, 1) := by decide +kernel
theorem dX5_in_18 : decode cX5_in 18 = .ok (.ireturn, 1) := by decide +kernel
theorem dX5_has_0 : decode cX5_has 0 = .ok (.iload_n 0, 1) := by decide +kernel
theorem dX5_has_1 : decode cX5_has 1 = .ok (.iload_n 1, 1) := by decide +kernel
theorem dX5_has_2 : decode cX5_has 2 = .ok (.ishr, 1) := by decide +kernel
theorem dX5_has_3 : decode cX5_has 3 = .ok (.iconst 1, 1) := by decide +kernel
theorem dX5_has_4 : decode cX5_has 4 = .ok (.iand, 1) := by decide +kernel
theorem dX5_has_5 : decode cX5_has 5 = .ok (.iconst 1, 1) := by decide +kernel
theorem dX5_has_6 : decode cX5_has 6 = .ok (.if_icmp .ne 7, 3) := by decide +kernel
theorem dX5_has_9 : decode cX5_has 9 = .ok (.iconst 1, 1) := by decide +kernel
theorem dX5_has_10 : decode cX5_has 10 = .ok (.goto 4, 3) := by decide +kernel
theorem dX5_has_13 : decode cX5_has 13 = .ok (.iconst 0, 1) := by decide +kernel
theorem dX5_has_14 : decode cX5_has 14 = .ok (.ireturn, 1) := by decide +kernel
theorem dX5_many_0 : decode cX5_many 0 = .ok (.iconst 0, 1) := by decide +kernel
theorem dX5_many_1 : decode cX5_many 1 = .ok (.istore_n 1, 1) := by decide +kernel
theorem dX5_many_2 : decode cX5_many 2 = .ok (.iconst 0, 1) := by decide +kernel
theorem dX5_many_3 : decode cX5_many 3 = .ok (.istore_n 2, 1) := by decide +kernel
theorem dX5_many_4 : decode cX5_many 4 = .ok (.iload_n 2, 1) := by decide +kernel
theorem dX5_many_5 : decode cX5_many 5 = .ok (.bipush 10, 2) := by decide +kernel
theorem dX5_many_7 : decode cX5_many 7 = .ok (.if_icmp .ge 17, 3) := by decide +kernel
theorem dX5_many_10 : decode cX5_many 10 = .ok (.iload_n 1, 1) := by decide +kernel
theorem dX5_many_11 : decode cX5_many 11 = .ok (.iload_n 0, 1) := by decide +kernel
theorem dX5_many_12 : decode cX5_many 12 = .ok (.iload_n 2, 1) := by decide +kernel
theorem dX5_many_13 : decode cX5_many 13 = .ok (.ishr, 1) := by decide +kernel
theorem dX5_many_14 : decode cX5_many 14 = .ok (.iconst 1, 1) := by decide +kernel
theorem dX5_many_15 : decode cX5_many 15 = .ok (.iand, 1) := by decide +kernel
theorem dX5_many_16 : decode cX5_many 16 = .ok (.iadd, 1) := by decide +kernel
theorem dX5_many_17 : decode cX5_many 17 = .ok (.istore_n 1, 1) := by decide +kernel
theorem dX5_many_18 : decode cX5_many 18 = .ok (.iinc 2 1, 3) := by decide +kernel
theorem dX5_many_21 : decode cX5_many 21 = .ok (.goto (-17), 3) := by decide +kernel
theorem dX5_many_24 : decode cX5_many 24 = .ok (.iload_n 1, 1) := by decide +kernel
theorem dX5_many_25 : decode cX5_many 25 = .ok (.ireturn, 1) := by decide +kernel
theorem dX5_noMule_0 : decode cX5_noMule 0 = .ok (.iload_n 1, 1) := by decide +kernel
theorem dX5_noMule_1 : decode cX5_noMule 1 = .ok (.i2l, 1) := by decide +kernel
theorem dX5_noMule_2 : decode cX5_noMule 2 = .ok (.lconst 0, 1) := by decide +kernel
theorem dX5_noMule_3 : decode cX5_noMule 3 = .ok (.aload_n 0, 1) := by decide +kernel
theorem dX5_noMule_4 : decode cX5_noMule 4 = .ok (.getfield 72, 3) := by decide +kernel
theorem dX5_noMule_7 : decode cX5_noMule 7 = .ok (.iconst 1, 1) := by decide +kernel
theorem dX5_noMule_8 : decode cX5_noMule 8 = .ok (.isub, 1) := by decide +kernel
theorem dX5_noMule_9 : decode cX5_noMule 9 = .ok (.i2l, 1) := by decide +kernel
theorem dX5_noMule_10 : decode cX5_noMule 10 = .ok (.invokestatic 75, 3) := by decide +kernel
theorem dX5_noMule_13 : decode cX5_noMule 13 = .ok (.ifCond .ne 7, 3) := by decide +kernel
theorem dX5_noMule_16 : decode cX5_noMule 16 = .ok (.iconst 1, 1) := by decide +kernel
theorem dX5_noMule_17 : decode cX5_noMule 17 = .ok (.goto 4, 3) := by decide +kernel
theorem dX5_noMule_20 : decode cX5_noMule 20 = .ok (.iconst 0, 1) := by decide +kernel
theorem dX5_noMule_21 : decode cX5_noMule 21 = .ok (.ireturn, 1) := by decide +kernel
theorem dX5_noArticle_0 : decode cX5_noArticle 0 = .ok (.iload_n 1, 1) := by decide +kernel
theorem dX5_noArticle_1 : decode cX5_noArticle 1 = .ok (.i2l, 1) := by decide +kernel
theorem dX5_noArticle_2 : decode cX5_noArticle 2 = .ok (.lconst 0, 1) := by decide +kernel
theorem dX5_noArticle_3 : decode cX5_noArticle 3 = .ok (.aload_n 0, 1) := by decide +kernel
theorem dX5_noArticle_4 : decode cX5_noArticle 4 = .ok (.getfield 79, 3) := by decide +kernel
theorem dX5_noArticle_7 : decode cX5_noArticle 7 = .ok (.iconst 1, 1) := by decide +kernel
theorem dX5_noArticle_8 : decode cX5_noArticle 8 = .ok (.isub, 1) := by decide +kernel
theorem dX5_noArticle_9 : decode cX5_noArticle 9 = .ok (.i2l, 1) := by decide +kernel
theorem dX5_noArticle_10 : decode cX5_noArticle 10 = .ok (.invokestatic 75, 3) := by decide +kernel
theorem dX5_noArticle_13 : decode cX5_noArticle 13 = .ok (.ifCond .ne 7, 3) := by decide +kernel
theorem dX5_noArticle_16 : decode cX5_noArticle 16 = .ok (.iconst 1, 1) := by decide +kernel
theorem dX5_noArticle_17 : decode cX5_noArticle 17 = .ok (.goto 4, 3) := by decide +kernel
theorem dX5_noArticle_20 : decode cX5_noArticle 20 = .ok (.iconst 0, 1) := by decide +kernel
theorem dX5_noArticle_21 : decode cX5_noArticle 21 = .ok (.ireturn, 1) := by decide +kernel
theorem dX5_write_0 : decode cX5_write 0 = .ok (.aload_n 0, 1) := by decide +kernel
theorem dX5_write_1 : decode cX5_write 1 = .ok (.iconst 0, 1) := by decide +kernel
theorem dX5_write_2 : decode cX5_write 2 = .ok (.putfield 68, 3) := by decide +kernel
theorem dX5_write_5 : decode cX5_write 5 = .ok (.iload_n 1, 1) := by decide +kernel
theorem dX5_write_6 : decode cX5_write 6 = .ok (.i2l, 1) := by decide +kernel
theorem dX5_write_7 : decode cX5_write 7 = .ok (.lconst 0, 1) := by decide +kernel
theorem dX5_write_8 : decode cX5_write 8 = .ok (.ldc2_w 82, 3) := by decide +kernel
theorem dX5_write_11 : decode cX5_write 11 = .ok (.invokestatic 75, 3) := by decide +kernel
theorem dX5_write_14 : decode cX5_write 14 = .ok (.ifCond .ne 6, 3) := by decide +kernel
theorem dX5_write_17 : decode cX5_write 17 = .ok (.bipush (-2), 2) := by decide +kernel
theorem dX5_write_19 : decode cX5_write 19 = .ok (.ireturn, 1) := by decide +kernel
theorem dX5_write_20 : decode cX5_write 20 = .ok (.aload_n 0, 1) := by decide +kernel
theorem dX5_write_21 : decode cX5_write 21 = .ok (.getfield 84, 3) := by decide +kernel
theorem dX5_write_24 : decode cX5_write 24 = .ok (.bipush 48, 2) := by decide +kernel
theorem dX5_write_26 : decode cX5_write 26 = .ok (.if_icmp .ne 6, 3) := by decide +kernel
theorem dX5_write_29 : decode cX5_write 29 = .ok (.bipush (-4), 2) := by decide +kernel
theorem dX5_write_31 : decode cX5_write 31 = .ok (.ireturn, 1) := by decide +kernel
theorem dX5_write_32 : decode cX5_write 32 = .ok (.aload_n 0, 1) := by decide +kernel
theorem dX5_write_33 : decode cX5_write 33 = .ok (.getfield 7, 3) := by decide +kernel
theorem dX5_write_36 : decode cX5_write 36 = .ok (.aload_n 0, 1) := by decide +kernel
theorem dX5_write_37 : decode cX5_write 37 = .ok (.getfield 84, 3) := by decide +kernel
theorem dX5_write_40 : decode cX5_write 40 = .ok (.iload_n 1, 1) := by decide +kernel
theorem dX5_write_41 : decode cX5_write 41 = .ok (.iastore, 1) := by decide +kernel
theorem dX5_write_42 : decode cX5_write 42 = .ok (.aload_n 0, 1) := by decide +kernel
theorem dX5_write_43 : decode cX5_write 43 = .ok (.dup, 1) := by decide +kernel
theorem dX5_write_44 : decode cX5_write 44 = .ok (.getfield 84, 3) := by decide +kernel
theorem dX5_write_47 : decode cX5_write 47 = .ok (.iconst 1, 1) := by decide +kernel
theorem dX5_write_48 : decode cX5_write 48 = .ok (.iadd, 1) := by decide +kernel
theorem dX5_write_49 : decode cX5_write 49 = .ok (.putfield 84, 3) := by decide +kernel
theorem dX5_write_52 : decode cX5_write 52 = .ok (.aload_n 0, 1) := by decide +kernel
theorem dX5_write_53 : decode cX5_write 53 = .ok (.getfield 84, 3) := by decide +kernel
theorem dX5_write_56 : decode cX5_write 56 = .ok (.ireturn, 1) := by decide +kernel
theorem dX5_wipe_0 : decode cX5_wipe 0 = .ok (.aload_n 0, 1) := by decide +kernel
theorem dX5_wipe_1 : decode cX5_wipe 1 = .ok (.iconst 0, 1) := by decide +kernel
theorem dX5_wipe_2 : decode cX5_wipe 2 = .ok (.putfield 68, 3) := by decide +kernel
theorem dX5_wipe_5 : decode cX5_wipe 5 = .ok (.aload_n 0, 1) := by decide +kernel
theorem dX5_wipe_6 : decode cX5_wipe 6 = .ok (.getfield 84, 3) := by decide +kernel
theorem dX5_wipe_9 : decode cX5_wipe 9 = .ok (.istore_n 1, 1) := by decide +kernel
theorem dX5_wipe_10 : decode cX5_wipe 10 = .ok (.aload_n 0, 1) := by decide +kernel
theorem dX5_wipe_11 : decode cX5_wipe 11 = .ok (.iconst 0, 1) := by decide +kernel
theorem dX5_wipe_12 : decode cX5_wipe 12 = .ok (.putfield 84, 3) := by decide +kernel
theorem dX5_wipe_15 : decode cX5_wipe 15 = .ok (.iload_n 1, 1) := by decide +kernel
theorem dX5_wipe_16 : decode cX5_wipe 16 = .ok (.ireturn, 1) := by decide +kernel
theorem dX5_figure_0 : decode cX5_figure 0 = .ok (.aload_n 0, 1) := by decide +kernel
theorem dX5_figure_1 : decode cX5_figure 1 = .ok (.getfield 87, 3) := by decide +kernel
theorem dX5_figure_4 : decode cX5_figure 4 = .ok (.aload_n 0, 1) := by decide +kernel
theorem dX5_figure_5 : decode cX5_figure 5 = .ok (.getfield 84, 3) := by decide +kernel
theorem dX5_figure_8 : decode cX5_figure 8 = .ok (.if_icmp .eq 25, 3) := by decide +kernel
theorem dX5_figure_11 : decode cX5_figure 11 = .ok (.aload_n 0, 1) := by decide +kernel
theorem dX5_figure_12 : decode cX5_figure 12 = .ok (.getfield 7, 3) := by decide +kernel
theorem dX5_figure_15 : decode cX5_figure 15 = .ok (.aload_n 0, 1) := by decide +kernel
theorem dX5_figure_16 : decode cX5_figure 16 = .ok (.getfield 87, 3) := by decide +kernel
theorem dX5_figure_19 : decode cX5_figure 19 = .ok (.iaload, 1) := by decide +kernel
theorem dX5_figure_20 : decode cX5_figure 20 = .ok (.bipush 48, 2) := by decide +kernel
theorem dX5_figure_22 : decode cX5_figure 22 = .ok (.isub, 1) := by decide +kernel
theorem dX5_figure_23 : decode cX5_figure 23 = .ok (.i2l, 1) := by decide +kernel
theorem dX5_figure_24 : decode cX5_figure 24 = .ok (.lconst 0, 1) := by decide +kernel
theorem dX5_figure_25 : decode cX5_figure 25 = .ok (.iload_n 1, 1) := by decide +kernel
theorem dX5_figure_26 : decode cX5_figure 26 = .ok (.i2l, 1) := by decide +kernel
theorem dX5_figure_27 : decode cX5_figure 27 = .ok (.invokestatic 75, 3) := by decide +kernel
theorem dX5_figure_30 : decode cX5_figure 30 = .ok (.ifCond .ne 6, 3) := by decide +kernel
theorem dX5_figure_33 : decode cX5_figure 33 = .ok (.bipush (-9), 2) := by decide +kernel
theorem dX5_figure_35 : decode cX5_figure 35 = .ok (.ireturn, 1) := by decide +kernel
theorem dX5_figure_36 : decode cX5_figure 36 = .ok (.aload_n 0, 1) := by decide +kernel
theorem dX5_figure_37 : decode cX5_figure 37 = .ok (.dup, 1) := by decide +kernel
theorem dX5_figure_38 : decode cX5_figure 38 = .ok (.getfield 87, 3) := by decide +kernel
theorem dX5_figure_41 : decode cX5_figure 41 = .ok (.iconst 1, 1) := by decide +kernel
theorem dX5_figure_42 : decode cX5_figure 42 = .ok (.iadd, 1) := by decide +kernel
theorem dX5_figure_43 : decode cX5_figure 43 = .ok (.putfield 87, 3) := by decide +kernel
theorem dX5_figure_46 : decode cX5_figure 46 = .ok (.aload_n 0, 1) := by decide +kernel
theorem dX5_figure_47 : decode cX5_figure 47 = .ok (.getfield 7, 3) := by decide +kernel
theorem dX5_figure_50 : decode cX5_figure 50 = .ok (.aload_n 0, 1) := by decide +kernel
theorem dX5_figure_51 : decode cX5_figure 51 = .ok (.getfield 87, 3) := by decide +kernel
theorem dX5_figure_54 : decode cX5_figure 54 = .ok (.iconst 1, 1) := by decide +kernel
theorem dX5_figure_55 : decode cX5_figure 55 = .ok (.isub, 1) := by decide +kernel
theorem dX5_figure_56 : decode cX5_figure 56 = .ok (.iaload, 1) := by decide +kernel
theorem dX5_figure_57 : decode cX5_figure 57 = .ok (.bipush 48, 2) := by decide +kernel
theorem dX5_figure_59 : decode cX5_figure 59 = .ok (.isub, 1) := by decide +kernel
theorem dX5_figure_60 : decode cX5_figure 60 = .ok (.ireturn, 1) := by decide +kernel
theorem dX5_readOneArticle_0 : decode cX5_readOneArticle 0 = .ok (.iconst 0, 1) := by decide +kernel
theorem dX5_readOneArticle_1 : decode cX5_readOneArticle 1 = .ok (.istore_n 1, 1) := by decide +kernel
theorem dX5_readOneArticle_2 : decode cX5_readOneArticle 2 = .ok (.iload_n 1, 1) := by decide +kernel
theorem dX5_readOneArticle_3 : decode cX5_readOneArticle 3 = .ok (.iconst 3, 1) := by decide +kernel
theorem dX5_readOneArticle_4 : decode cX5_readOneArticle 4 = .ok (.if_icmp .ge 47, 3) := by decide +kernel
theorem dX5_readOneArticle_7 : decode cX5_readOneArticle 7 = .ok (.aload_n 0, 1) := by decide +kernel
theorem dX5_readOneArticle_8 : decode cX5_readOneArticle 8 = .ok (.iload_n 1, 1) := by decide +kernel
theorem dX5_readOneArticle_9 : decode cX5_readOneArticle 9 = .ok (.iconst 1, 1) := by decide +kernel
theorem dX5_readOneArticle_10 : decode cX5_readOneArticle 10 = .ok (.if_icmp .ne 7, 3) := by decide +kernel
theorem dX5_readOneArticle_13 : decode cX5_readOneArticle 13 = .ok (.iconst 3, 1) := by decide +kernel
theorem dX5_readOneArticle_14 : decode cX5_readOneArticle 14 = .ok (.goto 5, 3) := by decide +kernel
theorem dX5_readOneArticle_17 : decode cX5_readOneArticle 17 = .ok (.bipush 9, 2) := by decide +kernel
theorem dX5_readOneArticle_19 : decode cX5_readOneArticle 19 = .ok (.invokevirtual 90, 3) := by decide +kernel
theorem dX5_readOneArticle_22 : decode cX5_readOneArticle 22 = .ok (.istore_n 2, 1) := by decide +kernel
theorem dX5_readOneArticle_23 : decode cX5_readOneArticle 23 = .ok (.iload_n 2, 1) := by decide +kernel
theorem dX5_readOneArticle_24 : decode cX5_readOneArticle 24 = .ok (.bipush (-9), 2) := by decide +kernel
theorem dX5_readOneArticle_26 : decode cX5_readOneArticle 26 = .ok (.if_icmp .ne 5, 3) := by decide +kernel
theorem dX5_readOneArticle_29 : decode cX5_readOneArticle 29 = .ok (.iconst 0, 1) := by decide +kernel
theorem dX5_readOneArticle_30 : decode cX5_readOneArticle 30 = .ok (.ireturn, 1) := by decide +kernel
theorem dX5_readOneArticle_31 : decode cX5_readOneArticle 31 = .ok (.aload_n 0, 1) := by decide +kernel
theorem dX5_readOneArticle_32 : decode cX5_readOneArticle 32 = .ok (.getfield 28, 3) := by decide +kernel
theorem dX5_readOneArticle_35 : decode cX5_readOneArticle 35 = .ok (.iconst 3, 1) := by decide +kernel
theorem dX5_readOneArticle_36 : decode cX5_readOneArticle 36 = .ok (.aload_n 0, 1) := by decide +kernel
theorem dX5_readOneArticle_37 : decode cX5_readOneArticle 37 = .ok (.getfield 94, 3) := by decide +kernel
theorem dX5_readOneArticle_40 : decode cX5_readOneArticle 40 = .ok (.imul, 1) := by decide +kernel
theorem dX5_readOneArticle_41 : decode cX5_readOneArticle 41 = .ok (.iload_n 1, 1) := by decide +kernel
theorem dX5_readOneArticle_42 : decode cX5_readOneArticle 42 = .ok (.iadd, 1) := by decide +kernel
theorem dX5_readOneArticle_43 : decode cX5_readOneArticle 43 = .ok (.iload_n 2, 1) := by decide +kernel
theorem dX5_readOneArticle_44 : decode cX5_readOneArticle 44 = .ok (.iastore, 1) := by decide +kernel
theorem dX5_readOneArticle_45 : decode cX5_readOneArticle 45 = .ok (.iinc 1 1, 3) := by decide +kernel
theorem dX5_readOneArticle_48 : decode cX5_readOneArticle 48 = .ok (.goto (-46), 3) := by decide +kernel
theorem dX5_readOneArticle_51 : decode cX5_readOneArticle 51 = .ok (.aload_n 0, 1) := by decide +kernel
theorem dX5_readOneArticle_52 : decode cX5_readOneArticle 52 = .ok (.dup, 1) := by decide +kernel
theorem dX5_readOneArticle_53 : decode cX5_readOneArticle 53 = .ok (.getfield 94, 3) := by decide +kernel
theorem dX5_readOneArticle_56 : decode cX5_readOneArticle 56 = .ok (.iconst 1, 1) := by decide +kernel
theorem dX5_readOneArticle_57 : decode cX5_readOneArticle 57 = .ok (.iadd, 1) := by decide +kernel
theorem dX5_readOneArticle_58 : decode cX5_readOneArticle 58 = .ok (.putfield 94, 3) := by decide +kernel
theorem dX5_readOneArticle_61 : decode cX5_readOneArticle 61 = .ok (.iconst 1, 1) := by decide +kernel
theorem dX5_readOneArticle_62 : decode cX5_readOneArticle 62 = .ok (.ireturn, 1) := by decide +kernel
theorem dX5_readOneMule_0 : decode cX5_readOneMule 0 = .ok (.iconst 0, 1) := by decide +kernel
theorem dX5_readOneMule_1 : decode cX5_readOneMule 1 = .ok (.istore_n 1, 1) := by decide +kernel
theorem dX5_readOneMule_2 : decode cX5_readOneMule 2 = .ok (.iload_n 1, 1) := by decide +kernel
theorem dX5_readOneMule_3 : decode cX5_readOneMule 3 = .ok (.iconst 3, 1) := by decide +kernel
theorem dX5_readOneMule_4 : decode cX5_readOneMule 4 = .ok (.if_icmp .ge 46, 3) := by decide +kernel
theorem dX5_readOneMule_7 : decode cX5_readOneMule 7 = .ok (.aload_n 0, 1) := by decide +kernel
theorem dX5_readOneMule_8 : decode cX5_readOneMule 8 = .ok (.iload_n 1, 1) := by decide +kernel
theorem dX5_readOneMule_9 : decode cX5_readOneMule 9 = .ok (.ifCond .ne 8, 3) := by decide +kernel
theorem dX5_readOneMule_12 : decode cX5_readOneMule 12 = .ok (.bipush 9, 2) := by decide +kernel
theorem dX5_readOneMule_14 : decode cX5_readOneMule 14 = .ok (.goto 4, 3) := by decide +kernel
theorem dX5_readOneMule_17 : decode cX5_readOneMule 17 = .ok (.iconst 3, 1) := by decide +kernel
theorem dX5_readOneMule_18 : decode cX5_readOneMule 18 = .ok (.invokevirtual 90, 3) := by decide +kernel
theorem dX5_readOneMule_21 : decode cX5_readOneMule 21 = .ok (.istore_n 2, 1) := by decide +kernel
theorem dX5_readOneMule_22 : decode cX5_readOneMule 22 = .ok (.iload_n 2, 1) := by decide +kernel
theorem dX5_readOneMule_23 : decode cX5_readOneMule 23 = .ok (.bipush (-9), 2) := by decide +kernel
theorem dX5_readOneMule_25 : decode cX5_readOneMule 25 = .ok (.if_icmp .ne 5, 3) := by decide +kernel
theorem dX5_readOneMule_28 : decode cX5_readOneMule 28 = .ok (.iconst 0, 1) := by decide +kernel
theorem dX5_readOneMule_29 : decode cX5_readOneMule 29 = .ok (.ireturn, 1) := by decide +kernel
theorem dX5_readOneMule_30 : decode cX5_readOneMule 30 = .ok (.aload_n 0, 1) := by decide +kernel
theorem dX5_readOneMule_31 : decode cX5_readOneMule 31 = .ok (.getfield 25, 3) := by decide +kernel
theorem dX5_readOneMule_34 : decode cX5_readOneMule 34 = .ok (.iconst 3, 1) := by decide +kernel
theorem dX5_readOneMule_35 : decode cX5_readOneMule 35 = .ok (.aload_n 0, 1) := by decide +kernel
theorem dX5_readOneMule_36 : decode cX5_readOneMule 36 = .ok (.getfield 97, 3) := by decide +kernel
theorem dX5_readOneMule_39 : decode cX5_readOneMule 39 = .ok (.imul, 1) := by decide +kernel
theorem dX5_readOneMule_40 : decode cX5_readOneMule 40 = .ok (.iload_n 1, 1) := by decide +kernel
theorem dX5_readOneMule_41 : decode cX5_readOneMule 41 = .ok (.iadd, 1) := by decide +kernel
theorem dX5_readOneMule_42 : decode cX5_readOneMule 42 = .ok (.iload_n 2, 1) := by decide +kernel
theorem dX5_readOneMule_43 : decode cX5_readOneMule 43 = .ok (.iastore, 1) := by decide +kernel
theorem dX5_readOneMule_44 : decode cX5_readOneMule 44 = .ok (.iinc 1 1, 3) := by decide +kernel
theorem dX5_readOneMule_47 : decode cX5_readOneMule 47 = .ok (.goto (-45), 3) := by decide +kernel
theorem dX5_readOneMule_50 : decode cX5_readOneMule 50 = .ok (.aload_n 0, 1) := by decide +kernel
theorem dX5_readOneMule_51 : decode cX5_readOneMule 51 = .ok (.dup, 1) := by decide +kernel
theorem dX5_readOneMule_52 : decode cX5_readOneMule 52 = .ok (.getfield 97, 3) := by decide +kernel
theorem dX5_readOneMule_55 : decode cX5_readOneMule 55 = .ok (.iconst 1, 1) := by decide +kernel
theorem dX5_readOneMule_56 : decode cX5_readOneMule 56 = .ok (.iadd, 1) := by decide +kernel
theorem dX5_readOneMule_57 : decode cX5_readOneMule 57 = .ok (.putfield 97, 3) := by decide +kernel
theorem dX5_readOneMule_60 : decode cX5_readOneMule 60 = .ok (.iconst 1, 1) := by decide +kernel
theorem dX5_readOneMule_61 : decode cX5_readOneMule 61 = .ok (.ireturn, 1) := by decide +kernel
theorem dX5_readPart_0 : decode cX5_readPart 0 = .ok (.aload_n 0, 1) := by decide +kernel
theorem dX5_readPart_1 : decode cX5_readPart 1 = .ok (.getfield 7, 3) := by decide +kernel
theorem dX5_readPart_4 : decode cX5_readPart 4 = .ok (.aload_n 0, 1) := by decide +kernel
theorem dX5_readPart_5 : decode cX5_readPart 5 = .ok (.getfield 87, 3) := by decide +kernel
theorem dX5_readPart_8 : decode cX5_readPart 8 = .ok (.iaload, 1) := by decide +kernel
theorem dX5_readPart_9 : decode cX5_readPart 9 = .ok (.istore_n 1, 1) := by decide +kernel
theorem dX5_readPart_10 : decode cX5_readPart 10 = .ok (.aload_n 0, 1) := by decide +kernel
theorem dX5_readPart_11 : decode cX5_readPart 11 = .ok (.dup, 1) := by decide +kernel
theorem dX5_readPart_12 : decode cX5_readPart 12 = .ok (.getfield 87, 3) := by decide +kernel
theorem dX5_readPart_15 : decode cX5_readPart 15 = .ok (.iconst 1, 1) := by decide +kernel
theorem dX5_readPart_16 : decode cX5_readPart 16 = .ok (.iadd, 1) := by decide +kernel
theorem dX5_readPart_17 : decode cX5_readPart 17 = .ok (.putfield 87, 3) := by decide +kernel
theorem dX5_readPart_20 : decode cX5_readPart 20 = .ok (.iload_n 1, 1) := by decide +kernel
theorem dX5_readPart_21 : decode cX5_readPart 21 = .ok (.bipush 65, 2) := by decide +kernel
theorem dX5_readPart_23 : decode cX5_readPart 23 = .ok (.if_icmp .ne 16, 3) := by decide +kernel
theorem dX5_readPart_26 : decode cX5_readPart 26 = .ok (.aload_n 0, 1) := by decide +kernel
theorem dX5_readPart_27 : decode cX5_readPart 27 = .ok (.getfield 94, 3) := by decide +kernel
theorem dX5_readPart_30 : decode cX5_readPart 30 = .ok (.iconst 5, 1) := by decide +kernel
theorem dX5_readPart_31 : decode cX5_readPart 31 = .ok (.if_icmp .ge 8, 3) := by decide +kernel
theorem dX5_readPart_34 : decode cX5_readPart 34 = .ok (.aload_n 0, 1) := by decide +kernel
theorem dX5_readPart_35 : decode cX5_readPart 35 = .ok (.invokevirtual 100, 3) := by decide +kernel
theorem dX5_readPart_38 : decode cX5_readPart 38 = .ok (.ireturn, 1) := by decide +kernel
theorem dX5_readPart_39 : decode cX5_readPart 39 = .ok (.iload_n 1, 1) := by decide +kernel
theorem dX5_readPart_40 : decode cX5_readPart 40 = .ok (.bipush 77, 2) := by decide +kernel
theorem dX5_readPart_42 : decode cX5_readPart 42 = .ok (.if_icmp .ne 16, 3) := by decide +kernel
theorem dX5_readPart_45 : decode cX5_readPart 45 = .ok (.aload_n 0, 1) := by decide +kernel
theorem dX5_readPart_46 : decode cX5_readPart 46 = .ok (.getfield 97, 3) := by decide +kernel
theorem dX5_readPart_49 : decode cX5_readPart 49 = .ok (.iconst 5, 1) := by decide +kernel
theorem dX5_readPart_50 : decode cX5_readPart 50 = .ok (.if_icmp .ge 8, 3) := by decide +kernel
theorem dX5_readPart_53 : decode cX5_readPart 53 = .ok (.aload_n 0, 1) := by decide +kernel
theorem dX5_readPart_54 : decode cX5_readPart 54 = .ok (.invokevirtual 104, 3) := by decide +kernel
theorem dX5_readPart_57 : decode cX5_readPart 57 = .ok (.ireturn, 1) := by decide +kernel
theorem dX5_readPart_58 : decode cX5_readPart 58 = .ok (.aload_n 0, 1) := by decide +kernel
theorem dX5_readPart_59 : decode cX5_readPart 59 = .ok (.dup, 1) := by decide +kernel
theorem dX5_readPart_60 : decode cX5_readPart 60 = .ok (.getfield 87, 3) := by decide +kernel
theorem dX5_readPart_63 : decode cX5_readPart 63 = .ok (.iconst 1, 1) := by decide +kernel
theorem dX5_readPart_64 : decode cX5_readPart 64 = .ok (.isub, 1) := by decide +kernel
theorem dX5_readPart_65 : decode cX5_readPart 65 = .ok (.putfield 87, 3) := by decide +kernel
theorem dX5_readPart_68 : decode cX5_readPart 68 = .ok (.iconst 0, 1) := by decide +kernel
theorem dX5_readPart_69 : decode cX5_readPart 69 = .ok (.ireturn, 1) := by decide +kernel
theorem dX5_readTreaty_0 : decode cX5_readTreaty 0 = .ok (.aload_n 0, 1) := by decide +kernel
theorem dX5_readTreaty_1 : decode cX5_readTreaty 1 = .ok (.iconst 0, 1) := by decide +kernel
theorem dX5_readTreaty_2 : decode cX5_readTreaty 2 = .ok (.putfield 87, 3) := by decide +kernel
theorem dX5_readTreaty_5 : decode cX5_readTreaty 5 = .ok (.aload_n 0, 1) := by decide +kernel
theorem dX5_readTreaty_6 : decode cX5_readTreaty 6 = .ok (.iconst 0, 1) := by decide +kernel
theorem dX5_readTreaty_7 : decode cX5_readTreaty 7 = .ok (.putfield 97, 3) := by decide +kernel
theorem dX5_readTreaty_10 : decode cX5_readTreaty 10 = .ok (.aload_n 0, 1) := by decide +kernel
theorem dX5_readTreaty_11 : decode cX5_readTreaty 11 = .ok (.iconst 0, 1) := by decide +kernel
theorem dX5_readTreaty_12 : decode cX5_readTreaty 12 = .ok (.putfield 94, 3) := by decide +kernel
theorem dX5_readTreaty_15 : decode cX5_readTreaty 15 = .ok (.aload_n 0, 1) := by decide +kernel
theorem dX5_readTreaty_16 : decode cX5_readTreaty 16 = .ok (.getfield 84, 3) := by decide +kernel
theorem dX5_readTreaty_19 : decode cX5_readTreaty 19 = .ok (.ifCond .eq 14, 3) := by decide +kernel
theorem dX5_readTreaty_22 : decode cX5_readTreaty 22 = .ok (.aload_n 0, 1) := by decide +kernel
theorem dX5_readTreaty_23 : decode cX5_readTreaty 23 = .ok (.getfield 7, 3) := by decide +kernel
theorem dX5_readTreaty_26 : decode cX5_readTreaty 26 = .ok (.iconst 0, 1) := by decide +kernel
theorem dX5_readTreaty_27 : decode cX5_readTreaty 27 = .ok (.iaload, 1) := by decide +kernel
theorem dX5_readTreaty_28 : decode cX5_readTreaty 28 = .ok (.bipush 77, 2) := by decide +kernel
theorem dX5_readTreaty_30 : decode cX5_readTreaty 30 = .ok (.if_icmp .eq 5, 3) := by decide +kernel
theorem dX5_readTreaty_33 : decode cX5_readTreaty 33 = .ok (.iconst 0, 1) := by decide +kernel
theorem dX5_readTreaty_34 : decode cX5_readTreaty 34 = .ok (.ireturn, 1) := by decide +kernel
theorem dX5_readTreaty_35 : decode cX5_readTreaty 35 = .ok (.aload_n 0, 1) := by decide +kernel
theorem dX5_readTreaty_36 : decode cX5_readTreaty 36 = .ok (.iconst 1, 1) := by decide +kernel
theorem dX5_readTreaty_37 : decode cX5_readTreaty 37 = .ok (.putfield 87, 3) := by decide +kernel
theorem dX5_readTreaty_40 : decode cX5_readTreaty 40 = .ok (.aload_n 0, 1) := by decide +kernel
theorem dX5_readTreaty_41 : decode cX5_readTreaty 41 = .ok (.getfield 87, 3) := by decide +kernel
theorem dX5_readTreaty_44 : decode cX5_readTreaty 44 = .ok (.aload_n 0, 1) := by decide +kernel
theorem dX5_readTreaty_45 : decode cX5_readTreaty 45 = .ok (.getfield 84, 3) := by decide +kernel
theorem dX5_readTreaty_48 : decode cX5_readTreaty 48 = .ok (.if_icmp .ge 15, 3) := by decide +kernel
theorem dX5_readTreaty_51 : decode cX5_readTreaty 51 = .ok (.aload_n 0, 1) := by decide +kernel
theorem dX5_readTreaty_52 : decode cX5_readTreaty 52 = .ok (.invokevirtual 107, 3) := by decide +kernel
theorem dX5_readTreaty_55 : decode cX5_readTreaty 55 = .ok (.ifCond .ne (-15), 3) := by decide +kernel
theorem dX5_readTreaty_58 : decode cX5_readTreaty 58 = .ok (.aload_n 0, 1) := by decide +kernel
theorem dX5_readTreaty_59 : decode cX5_readTreaty 59 = .ok (.getfield 87, 3) := by decide +kernel
theorem dX5_readTreaty_62 : decode cX5_readTreaty 62 = .ok (.ireturn, 1) := by decide +kernel
theorem dX5_readTreaty_63 : decode cX5_readTreaty 63 = .ok (.bipush (-9), 2) := by decide +kernel
theorem dX5_readTreaty_65 : decode cX5_readTreaty 65 = .ok (.ireturn, 1) := by decide +kernel
theorem dX5_fault_0 : decode cX5_fault 0 = .ok (.aload_n 0, 1) := by decide +kernel
theorem dX5_fault_1 : decode cX5_fault 1 = .ok (.iconst 0, 1) := by decide +kernel
theorem dX5_fault_2 : decode cX5_fault 2 = .ok (.putfield 68, 3) := by decide +kernel
theorem dX5_fault_5 : decode cX5_fault 5 = .ok (.aload_n 0, 1) := by decide +kernel
theorem dX5_fault_6 : decode cX5_fault 6 = .ok (.invokevirtual 110, 3) := by decide +kernel
theorem dX5_fault_9 : decode cX5_fault 9 = .ok (.ireturn, 1) := by decide +kernel
theorem dX5_treaty_0 : decode cX5_treaty 0 = .ok (.aload_n 0, 1) := by decide +kernel
theorem dX5_treaty_1 : decode cX5_treaty 1 = .ok (.iconst 0, 1) := by decide +kernel
theorem dX5_treaty_2 : decode cX5_treaty 2 = .ok (.putfield 68, 3) := by decide +kernel
theorem dX5_treaty_5 : decode cX5_treaty 5 = .ok (.aload_n 0, 1) := by decide +kernel
theorem dX5_treaty_6 : decode cX5_treaty 6 = .ok (.invokevirtual 110, 3) := by decide +kernel
theorem dX5_treaty_9 : decode cX5_treaty 9 = .ok (.bipush (-9), 2) := by decide +kernel
theorem dX5_treaty_11 : decode cX5_treaty 11 = .ok (.if_icmp .eq 6, 3) := by decide +kernel
theorem dX5_treaty_14 : decode cX5_treaty 14 = .ok (.bipush (-3), 2) := by decide +kernel
theorem dX5_treaty_16 : decode cX5_treaty 16 = .ok (.ireturn, 1) := by decide +kernel
theorem dX5_treaty_17 : decode cX5_treaty 17 = .ok (.aload_n 0, 1) := by decide +kernel
theorem dX5_treaty_18 : decode cX5_treaty 18 = .ok (.aload_n 0, 1) := by decide +kernel
theorem dX5_treaty_19 : decode cX5_treaty 19 = .ok (.getfield 97, 3) := by decide +kernel
theorem dX5_treaty_22 : decode cX5_treaty 22 = .ok (.putfield 72, 3) := by decide +kernel
theorem dX5_treaty_25 : decode cX5_treaty 25 = .ok (.aload_n 0, 1) := by decide +kernel
theorem dX5_treaty_26 : decode cX5_treaty 26 = .ok (.aload_n 0, 1) := by decide +kernel
theorem dX5_treaty_27 : decode cX5_treaty 27 = .ok (.getfield 94, 3) := by decide +kernel
theorem dX5_treaty_30 : decode cX5_treaty 30 = .ok (.putfield 79, 3) := by decide +kernel
theorem dX5_treaty_33 : decode cX5_treaty 33 = .ok (.iconst 0, 1) := by decide +kernel
theorem dX5_treaty_34 : decode cX5_treaty 34 = .ok (.istore_n 1, 1) := by decide +kernel
theorem dX5_treaty_35 : decode cX5_treaty 35 = .ok (.iload_n 1, 1) := by decide +kernel
theorem dX5_treaty_36 : decode cX5_treaty 36 = .ok (.bipush 17, 2) := by decide +kernel
theorem dX5_treaty_38 : decode cX5_treaty 38 = .ok (.if_icmp .ge 16, 3) := by decide +kernel
theorem dX5_treaty_41 : decode cX5_treaty 41 = .ok (.aload_n 0, 1) := by decide +kernel
theorem dX5_treaty_42 : decode cX5_treaty 42 = .ok (.getfield 31, 3) := by decide +kernel
theorem dX5_treaty_45 : decode cX5_treaty 45 = .ok (.iload_n 1, 1) := by decide +kernel
theorem dX5_treaty_46 : decode cX5_treaty 46 = .ok (.iconst 0, 1) := by decide +kernel
theorem dX5_treaty_47 : decode cX5_treaty 47 = .ok (.iastore, 1) := by decide +kernel
theorem dX5_treaty_48 : decode cX5_treaty 48 = .ok (.iinc 1 1, 3) := by decide +kernel
theorem dX5_treaty_51 : decode cX5_treaty 51 = .ok (.goto (-16), 3) := by decide +kernel
theorem dX5_treaty_54 : decode cX5_treaty 54 = .ok (.iconst 0, 1) := by decide +kernel
theorem dX5_treaty_55 : decode cX5_treaty 55 = .ok (.istore_n 1, 1) := by decide +kernel
theorem dX5_treaty_56 : decode cX5_treaty 56 = .ok (.iload_n 1, 1) := by decide +kernel
theorem dX5_treaty_57 : decode cX5_treaty 57 = .ok (.aload_n 0, 1) := by decide +kernel
theorem dX5_treaty_58 : decode cX5_treaty 58 = .ok (.getfield 72, 3) := by decide +kernel
theorem dX5_treaty_61 : decode cX5_treaty 61 = .ok (.if_icmp .ge 59, 3) := by decide +kernel
theorem dX5_treaty_64 : decode cX5_treaty 64 = .ok (.aload_n 0, 1) := by decide +kernel
theorem dX5_treaty_65 : decode cX5_treaty 65 = .ok (.getfield 31, 3) := by decide +kernel
theorem dX5_treaty_68 : decode cX5_treaty 68 = .ok (.iconst 0, 1) := by decide +kernel
theorem dX5_treaty_69 : decode cX5_treaty 69 = .ok (.iload_n 1, 1) := by decide +kernel
theorem dX5_treaty_70 : decode cX5_treaty 70 = .ok (.iadd, 1) := by decide +kernel
theorem dX5_treaty_71 : decode cX5_treaty 71 = .ok (.aload_n 0, 1) := by decide +kernel
theorem dX5_treaty_72 : decode cX5_treaty 72 = .ok (.getfield 25, 3) := by decide +kernel
theorem dX5_treaty_75 : decode cX5_treaty 75 = .ok (.iconst 3, 1) := by decide +kernel
theorem dX5_treaty_76 : decode cX5_treaty 76 = .ok (.iload_n 1, 1) := by decide +kernel
theorem dX5_treaty_77 : decode cX5_treaty 77 = .ok (.imul, 1) := by decide +kernel
theorem dX5_treaty_78 : decode cX5_treaty 78 = .ok (.iaload, 1) := by decide +kernel
theorem dX5_treaty_79 : decode cX5_treaty 79 = .ok (.iastore, 1) := by decide +kernel
theorem dX5_treaty_80 : decode cX5_treaty 80 = .ok (.aload_n 0, 1) := by decide +kernel
theorem dX5_treaty_81 : decode cX5_treaty 81 = .ok (.getfield 13, 3) := by decide +kernel
theorem dX5_treaty_84 : decode cX5_treaty 84 = .ok (.iload_n 1, 1) := by decide +kernel
theorem dX5_treaty_85 : decode cX5_treaty 85 = .ok (.aload_n 0, 1) := by decide +kernel
theorem dX5_treaty_86 : decode cX5_treaty 86 = .ok (.getfield 25, 3) := by decide +kernel
theorem dX5_treaty_89 : decode cX5_treaty 89 = .ok (.iconst 3, 1) := by decide +kernel
theorem dX5_treaty_90 : decode cX5_treaty 90 = .ok (.iload_n 1, 1) := by decide +kernel
theorem dX5_treaty_91 : decode cX5_treaty 91 = .ok (.imul, 1) := by decide +kernel
theorem dX5_treaty_92 : decode cX5_treaty 92 = .ok (.iconst 1, 1) := by decide +kernel
theorem dX5_treaty_93 : decode cX5_treaty 93 = .ok (.iadd, 1) := by decide +kernel
theorem dX5_treaty_94 : decode cX5_treaty 94 = .ok (.iaload, 1) := by decide +kernel
theorem dX5_treaty_95 : decode cX5_treaty 95 = .ok (.iastore, 1) := by decide +kernel
theorem dX5_treaty_96 : decode cX5_treaty 96 = .ok (.aload_n 0, 1) := by decide +kernel
theorem dX5_treaty_97 : decode cX5_treaty 97 = .ok (.getfield 31, 3) := by decide +kernel
theorem dX5_treaty_100 : decode cX5_treaty 100 = .ok (.iconst 5, 1) := by decide +kernel
theorem dX5_treaty_101 : decode cX5_treaty 101 = .ok (.iload_n 1, 1) := by decide +kernel
theorem dX5_treaty_102 : decode cX5_treaty 102 = .ok (.iadd, 1) := by decide +kernel
theorem dX5_treaty_103 : decode cX5_treaty 103 = .ok (.aload_n 0, 1) := by decide +kernel
theorem dX5_treaty_104 : decode cX5_treaty 104 = .ok (.getfield 25, 3) := by decide +kernel
theorem dX5_treaty_107 : decode cX5_treaty 107 = .ok (.iconst 3, 1) := by decide +kernel
theorem dX5_treaty_108 : decode cX5_treaty 108 = .ok (.iload_n 1, 1) := by decide +kernel
theorem dX5_treaty_109 : decode cX5_treaty 109 = .ok (.imul, 1) := by decide +kernel
theorem dX5_treaty_110 : decode cX5_treaty 110 = .ok (.iconst 2, 1) := by decide +kernel
theorem dX5_treaty_111 : decode cX5_treaty 111 = .ok (.iadd, 1) := by decide +kernel
theorem dX5_treaty_112 : decode cX5_treaty 112 = .ok (.iaload, 1) := by decide +kernel
theorem dX5_treaty_113 : decode cX5_treaty 113 = .ok (.iastore, 1) := by decide +kernel
theorem dX5_treaty_114 : decode cX5_treaty 114 = .ok (.iinc 1 1, 3) := by decide +kernel
theorem dX5_treaty_117 : decode cX5_treaty 117 = .ok (.goto (-61), 3) := by decide +kernel
theorem dX5_treaty_120 : decode cX5_treaty 120 = .ok (.iconst 0, 1) := by decide +kernel
theorem dX5_treaty_121 : decode cX5_treaty 121 = .ok (.istore_n 1, 1) := by decide +kernel
theorem dX5_treaty_122 : decode cX5_treaty 122 = .ok (.iload_n 1, 1) := by decide +kernel
theorem dX5_treaty_123 : decode cX5_treaty 123 = .ok (.aload_n 0, 1) := by decide +kernel
theorem dX5_treaty_124 : decode cX5_treaty 124 = .ok (.getfield 79, 3) := by decide +kernel
theorem dX5_treaty_127 : decode cX5_treaty 127 = .ok (.if_icmp .ge 55, 3) := by decide +kernel
theorem dX5_treaty_130 : decode cX5_treaty 130 = .ok (.aload_n 0, 1) := by decide +kernel
theorem dX5_treaty_131 : decode cX5_treaty 131 = .ok (.getfield 16, 3) := by decide +kernel
theorem dX5_treaty_134 : decode cX5_treaty 134 = .ok (.iload_n 1, 1) := by decide +kernel
theorem dX5_treaty_135 : decode cX5_treaty 135 = .ok (.aload_n 0, 1) := by decide +kernel
theorem dX5_treaty_136 : decode cX5_treaty 136 = .ok (.getfield 28, 3) := by decide +kernel
theorem dX5_treaty_139 : decode cX5_treaty 139 = .ok (.iconst 3, 1) := by decide +kernel
theorem dX5_treaty_140 : decode cX5_treaty 140 = .ok (.iload_n 1, 1) := by decide +kernel
theorem dX5_treaty_141 : decode cX5_treaty 141 = .ok (.imul, 1) := by decide +kernel
theorem dX5_treaty_142 : decode cX5_treaty 142 = .ok (.iaload, 1) := by decide +kernel
theorem dX5_treaty_143 : decode cX5_treaty 143 = .ok (.iastore, 1) := by decide +kernel
theorem dX5_treaty_144 : decode cX5_treaty 144 = .ok (.aload_n 0, 1) := by decide +kernel
theorem dX5_treaty_145 : decode cX5_treaty 145 = .ok (.getfield 19, 3) := by decide +kernel
theorem dX5_treaty_148 : decode cX5_treaty 148 = .ok (.iload_n 1, 1) := by decide +kernel
theorem dX5_treaty_149 : decode cX5_treaty 149 = .ok (.aload_n 0, 1) := by decide +kernel
theorem dX5_treaty_150 : decode cX5_treaty 150 = .ok (.getfield 28, 3) := by decide +kernel
theorem dX5_treaty_153 : decode cX5_treaty 153 = .ok (.iconst 3, 1) := by decide +kernel
theorem dX5_treaty_154 : decode cX5_treaty 154 = .ok (.iload_n 1, 1) := by decide +kernel
theorem dX5_treaty_155 : decode cX5_treaty 155 = .ok (.imul, 1) := by decide +kernel
theorem dX5_treaty_156 : decode cX5_treaty 156 = .ok (.iconst 1, 1) := by decide +kernel
theorem dX5_treaty_157 : decode cX5_treaty 157 = .ok (.iadd, 1) := by decide +kernel
theorem dX5_treaty_158 : decode cX5_treaty 158 = .ok (.iaload, 1) := by decide +kernel
theorem dX5_treaty_159 : decode cX5_treaty 159 = .ok (.iastore, 1) := by decide +kernel
theorem dX5_treaty_160 : decode cX5_treaty 160 = .ok (.aload_n 0, 1) := by decide +kernel
theorem dX5_treaty_161 : decode cX5_treaty 161 = .ok (.getfield 22, 3) := by decide +kernel
theorem dX5_treaty_164 : decode cX5_treaty 164 = .ok (.iload_n 1, 1) := by decide +kernel
theorem dX5_treaty_165 : decode cX5_treaty 165 = .ok (.aload_n 0, 1) := by decide +kernel
theorem dX5_treaty_166 : decode cX5_treaty 166 = .ok (.getfield 28, 3) := by decide +kernel
theorem dX5_treaty_169 : decode cX5_treaty 169 = .ok (.iconst 3, 1) := by decide +kernel
theorem dX5_treaty_170 : decode cX5_treaty 170 = .ok (.iload_n 1, 1) := by decide +kernel
theorem dX5_treaty_171 : decode cX5_treaty 171 = .ok (.imul, 1) := by decide +kernel
theorem dX5_treaty_172 : decode cX5_treaty 172 = .ok (.iconst 2, 1) := by decide +kernel
theorem dX5_treaty_173 : decode cX5_treaty 173 = .ok (.iadd, 1) := by decide +kernel
theorem dX5_treaty_174 : decode cX5_treaty 174 = .ok (.iaload, 1) := by decide +kernel
theorem dX5_treaty_175 : decode cX5_treaty 175 = .ok (.iastore, 1) := by decide +kernel
theorem dX5_treaty_176 : decode cX5_treaty 176 = .ok (.iinc 1 1, 3) := by decide +kernel
theorem dX5_treaty_179 : decode cX5_treaty 179 = .ok (.goto (-57), 3) := by decide +kernel
theorem dX5_treaty_182 : decode cX5_treaty 182 = .ok (.aload_n 0, 1) := by decide +kernel
theorem dX5_treaty_183 : decode cX5_treaty 183 = .ok (.iconst 0, 1) := by decide +kernel
theorem dX5_treaty_184 : decode cX5_treaty 184 = .ok (.putfield 114, 3) := by decide +kernel
theorem dX5_treaty_187 : decode cX5_treaty 187 = .ok (.aload_n 0, 1) := by decide +kernel
theorem dX5_treaty_188 : decode cX5_treaty 188 = .ok (.getfield 43, 3) := by decide +kernel
theorem dX5_treaty_191 : decode cX5_treaty 191 = .ok (.iconst 0, 1) := by decide +kernel
theorem dX5_treaty_192 : decode cX5_treaty 192 = .ok (.iconst 0, 1) := by decide +kernel
theorem dX5_treaty_193 : decode cX5_treaty 193 = .ok (.bastore, 1) := by decide +kernel
theorem dX5_treaty_194 : decode cX5_treaty 194 = .ok (.aload_n 0, 1) := by decide +kernel
theorem dX5_treaty_195 : decode cX5_treaty 195 = .ok (.getfield 43, 3) := by decide +kernel
theorem dX5_treaty_198 : decode cX5_treaty 198 = .ok (.iconst 1, 1) := by decide +kernel
theorem dX5_treaty_199 : decode cX5_treaty 199 = .ok (.iconst 0, 1) := by decide +kernel
theorem dX5_treaty_200 : decode cX5_treaty 200 = .ok (.bastore, 1) := by decide +kernel
theorem dX5_treaty_201 : decode cX5_treaty 201 = .ok (.bipush 10, 2) := by decide +kernel
theorem dX5_treaty_203 : decode cX5_treaty 203 = .ok (.aload_n 0, 1) := by decide +kernel
theorem dX5_treaty_204 : decode cX5_treaty 204 = .ok (.getfield 72, 3) := by decide +kernel
theorem dX5_treaty_207 : decode cX5_treaty 207 = .ok (.imul, 1) := by decide +kernel
theorem dX5_treaty_208 : decode cX5_treaty 208 = .ok (.aload_n 0, 1) := by decide +kernel
theorem dX5_treaty_209 : decode cX5_treaty 209 = .ok (.getfield 79, 3) := by decide +kernel
theorem dX5_treaty_212 : decode cX5_treaty 212 = .ok (.iadd, 1) := by decide +kernel
theorem dX5_treaty_213 : decode cX5_treaty 213 = .ok (.ireturn, 1) := by decide +kernel
theorem dX5_knows_0 : decode cX5_knows 0 = .ok (.iconst 1, 1) := by decide +kernel
theorem dX5_knows_1 : decode cX5_knows 1 = .ok (.aload_n 0, 1) := by decide +kernel
theorem dX5_knows_2 : decode cX5_knows 2 = .ok (.getfield 79, 3) := by decide +kernel
theorem dX5_knows_5 : decode cX5_knows 5 = .ok (.ishl, 1) := by decide +kernel
theorem dX5_knows_6 : decode cX5_knows 6 = .ok (.iconst 1, 1) := by decide +kernel
theorem dX5_knows_7 : decode cX5_knows 7 = .ok (.isub, 1) := by decide +kernel
theorem dX5_knows_8 : decode cX5_knows 8 = .ok (.istore_n 3, 1) := by decide +kernel
theorem dX5_knows_9 : decode cX5_knows 9 = .ok (.aload_n 1, 1) := by decide +kernel
theorem dX5_knows_10 : decode cX5_knows 10 = .ok (.iconst 5, 1) := by decide +kernel
theorem dX5_knows_11 : decode cX5_knows 11 = .ok (.iload_n 2, 1) := by decide +kernel
theorem dX5_knows_12 : decode cX5_knows 12 = .ok (.iadd, 1) := by decide +kernel
theorem dX5_knows_13 : decode cX5_knows 13 = .ok (.iaload, 1) := by decide +kernel
theorem dX5_knows_14 : decode cX5_knows 14 = .ok (.tableswitch 57 1 3 #[26, 28, 37], 26) := by decide +kernel
theorem dX5_knows_40 : decode cX5_knows 40 = .ok (.iload_n 3, 1) := by decide +kernel
theorem dX5_knows_41 : decode cX5_knows 41 = .ok (.ireturn, 1) := by decide +kernel
theorem dX5_knows_42 : decode cX5_knows 42 = .ok (.aload_n 1, 1) := by decide +kernel
theorem dX5_knows_43 : decode cX5_knows 43 = .ok (.bipush 10, 2) := by decide +kernel
theorem dX5_knows_45 : decode cX5_knows 45 = .ok (.iload_n 2, 1) := by decide +kernel
theorem dX5_knows_46 : decode cX5_knows 46 = .ok (.iadd, 1) := by decide +kernel
theorem dX5_knows_47 : decode cX5_knows 47 = .ok (.iaload, 1) := by decide +kernel
theorem dX5_knows_48 : decode cX5_knows 48 = .ok (.iload_n 3, 1) := by decide +kernel
theorem dX5_knows_49 : decode cX5_knows 49 = .ok (.iand, 1) := by decide +kernel
theorem dX5_knows_50 : decode cX5_knows 50 = .ok (.ireturn, 1) := by decide +kernel
theorem dX5_knows_51 : decode cX5_knows 51 = .ok (.aload_n 0, 1) := by decide +kernel
theorem dX5_knows_52 : decode cX5_knows 52 = .ok (.getfield 79, 3) := by decide +kernel
theorem dX5_knows_55 : decode cX5_knows 55 = .ok (.ifCond .ne 7, 3) := by decide +kernel
theorem dX5_knows_58 : decode cX5_knows 58 = .ok (.iconst 0, 1) := by decide +kernel
theorem dX5_knows_59 : decode cX5_knows 59 = .ok (.goto 11, 3) := by decide +kernel
theorem dX5_knows_62 : decode cX5_knows 62 = .ok (.iconst 1, 1) := by decide +kernel
theorem dX5_knows_63 : decode cX5_knows 63 = .ok (.aload_n 0, 1) := by decide +kernel
theorem dX5_knows_64 : decode cX5_knows 64 = .ok (.getfield 79, 3) := by decide +kernel
theorem dX5_knows_67 : decode cX5_knows 67 = .ok (.iconst 1, 1) := by decide +kernel
theorem dX5_knows_68 : decode cX5_knows 68 = .ok (.isub, 1) := by decide +kernel
theorem dX5_knows_69 : decode cX5_knows 69 = .ok (.ishl, 1) := by decide +kernel
theorem dX5_knows_70 : decode cX5_knows 70 = .ok (.ireturn, 1) := by decide +kernel
theorem dX5_knows_71 : decode cX5_knows 71 = .ok (.aload_n 1, 1) := by decide +kernel
theorem dX5_knows_72 : decode cX5_knows 72 = .ok (.bipush 10, 2) := by decide +kernel
theorem dX5_knows_74 : decode cX5_knows 74 = .ok (.iload_n 2, 1) := by decide +kernel
theorem dX5_knows_75 : decode cX5_knows 75 = .ok (.iadd, 1) := by decide +kernel
theorem dX5_knows_76 : decode cX5_knows 76 = .ok (.iaload, 1) := by decide +kernel
theorem dX5_knows_77 : decode cX5_knows 77 = .ok (.bipush 21, 2) := by decide +kernel
theorem dX5_knows_79 : decode cX5_knows 79 = .ok (.ior, 1) := by decide +kernel
theorem dX5_knows_80 : decode cX5_knows 80 = .ok (.iload_n 3, 1) := by decide +kernel
theorem dX5_knows_81 : decode cX5_knows 81 = .ok (.iand, 1) := by decide +kernel
theorem dX5_knows_82 : decode cX5_knows 82 = .ok (.ireturn, 1) := by decide +kernel
theorem dX5_toStone_0 : decode cX5_toStone 0 = .ok (.aload_n 0, 1) := by decide +kernel
theorem dX5_toStone_1 : decode cX5_toStone 1 = .ok (.iconst 0, 1) := by decide +kernel
theorem dX5_toStone_2 : decode cX5_toStone 2 = .ok (.iload_n 1, 1) := by decide +kernel
theorem dX5_toStone_3 : decode cX5_toStone 3 = .ok (.iadd, 1) := by decide +kernel
theorem dX5_toStone_4 : decode cX5_toStone 4 = .ok (.iaload, 1) := by decide +kernel
theorem dX5_toStone_5 : decode cX5_toStone 5 = .ok (.iload_n 2, 1) := by decide +kernel
theorem dX5_toStone_6 : decode cX5_toStone 6 = .ok (.iconst 1, 1) := by decide +kernel
theorem dX5_toStone_7 : decode cX5_toStone 7 = .ok (.if_icmp .ne 7, 3) := by decide +kernel
theorem dX5_toStone_10 : decode cX5_toStone 10 = .ok (.iconst 1, 1) := by decide +kernel
theorem dX5_toStone_11 : decode cX5_toStone 11 = .ok (.goto 4, 3) := by decide +kernel
theorem dX5_toStone_14 : decode cX5_toStone 14 = .ok (.iconst (-1), 1) := by decide +kernel
theorem dX5_toStone_15 : decode cX5_toStone 15 = .ok (.iadd, 1) := by decide +kernel
theorem dX5_toStone_16 : decode cX5_toStone 16 = .ok (.istore_n 3, 1) := by decide +kernel
theorem dX5_toStone_17 : decode cX5_toStone 17 = .ok (.iload_n 3, 1) := by decide +kernel
theorem dX5_toStone_18 : decode cX5_toStone 18 = .ok (.i2l, 1) := by decide +kernel
theorem dX5_toStone_19 : decode cX5_toStone 19 = .ok (.lconst 0, 1) := by decide +kernel
theorem dX5_toStone_20 : decode cX5_toStone 20 = .ok (.ldc2_w 117, 3) := by decide +kernel
theorem dX5_toStone_23 : decode cX5_toStone 23 = .ok (.invokestatic 75, 3) := by decide +kernel
theorem dX5_toStone_26 : decode cX5_toStone 26 = .ok (.ifCond .eq 7, 3) := by decide +kernel
theorem dX5_toStone_29 : decode cX5_toStone 29 = .ok (.iload_n 3, 1) := by decide +kernel
theorem dX5_toStone_30 : decode cX5_toStone 30 = .ok (.goto 5, 3) := by decide +kernel
theorem dX5_toStone_33 : decode cX5_toStone 33 = .ok (.bipush (-9), 2) := by decide +kernel
theorem dX5_toStone_35 : decode cX5_toStone 35 = .ok (.ireturn, 1) := by decide +kernel
theorem dX5_northern_0 : decode cX5_northern 0 = .ok (.iconst 0, 1) := by decide +kernel
theorem dX5_northern_1 : decode cX5_northern 1 = .ok (.istore 4, 2) := by decide +kernel
theorem dX5_northern_3 : decode cX5_northern 3 = .ok (.iconst 0, 1) := by decide +kernel
theorem dX5_northern_4 : decode cX5_northern 4 = .ok (.istore 5, 2) := by decide +kernel
theorem dX5_northern_6 : decode cX5_northern 6 = .ok (.iload 5, 2) := by decide +kernel
theorem dX5_northern_8 : decode cX5_northern 8 = .ok (.aload_n 0, 1) := by decide +kernel
theorem dX5_northern_9 : decode cX5_northern 9 = .ok (.getfield 72, 3) := by decide +kernel
theorem dX5_northern_12 : decode cX5_northern 12 = .ok (.if_icmp .ge 35, 3) := by decide +kernel
theorem dX5_northern_15 : decode cX5_northern 15 = .ok (.iload 4, 2) := by decide +kernel
theorem dX5_northern_17 : decode cX5_northern 17 = .ok (.iload 5, 2) := by decide +kernel
theorem dX5_northern_19 : decode cX5_northern 19 = .ok (.iload_n 2, 1) := by decide +kernel
theorem dX5_northern_20 : decode cX5_northern 20 = .ok (.if_icmp .eq 17, 3) := by decide +kernel
theorem dX5_northern_23 : decode cX5_northern 23 = .ok (.aload_n 1, 1) := by decide +kernel
theorem dX5_northern_24 : decode cX5_northern 24 = .ok (.iconst 0, 1) := by decide +kernel
theorem dX5_northern_25 : decode cX5_northern 25 = .ok (.iload 5, 2) := by decide +kernel
theorem dX5_northern_27 : decode cX5_northern 27 = .ok (.iadd, 1) := by decide +kernel
theorem dX5_northern_28 : decode cX5_northern 28 = .ok (.iaload, 1) := by decide +kernel
theorem dX5_northern_29 : decode cX5_northern 29 = .ok (.iload_n 3, 1) := by decide +kernel
theorem dX5_northern_30 : decode cX5_northern 30 = .ok (.if_icmp .lt 7, 3) := by decide +kernel
theorem dX5_northern_33 : decode cX5_northern 33 = .ok (.iconst 1, 1) := by decide +kernel
theorem dX5_northern_34 : decode cX5_northern 34 = .ok (.goto 4, 3) := by decide +kernel
theorem dX5_northern_37 : decode cX5_northern 37 = .ok (.iconst 0, 1) := by decide +kernel
theorem dX5_northern_38 : decode cX5_northern 38 = .ok (.iadd, 1) := by decide +kernel
theorem dX5_northern_39 : decode cX5_northern 39 = .ok (.istore 4, 2) := by decide +kernel
theorem dX5_northern_41 : decode cX5_northern 41 = .ok (.iinc 5 1, 3) := by decide +kernel
theorem dX5_northern_44 : decode cX5_northern 44 = .ok (.goto (-38), 3) := by decide +kernel
theorem dX5_northern_47 : decode cX5_northern 47 = .ok (.iload 4, 2) := by decide +kernel
theorem dX5_northern_49 : decode cX5_northern 49 = .ok (.ireturn, 1) := by decide +kernel
theorem dX5_isBarred_0 : decode cX5_isBarred 0 = .ok (.iload_n 0, 1) := by decide +kernel
theorem dX5_isBarred_1 : decode cX5_isBarred 1 = .ok (.tableswitch 77 0 2 #[27, 40, 54], 27) := by decide +kernel
theorem dX5_isBarred_28 : decode cX5_isBarred 28 = .ok (.iload_n 2, 1) := by decide +kernel
theorem dX5_isBarred_29 : decode cX5_isBarred 29 = .ok (.iload_n 1, 1) := by decide +kernel
theorem dX5_isBarred_30 : decode cX5_isBarred 30 = .ok (.iconst 4, 1) := by decide +kernel
theorem dX5_isBarred_31 : decode cX5_isBarred 31 = .ok (.irem, 1) := by decide +kernel
theorem dX5_isBarred_32 : decode cX5_isBarred 32 = .ok (.if_icmp .ne 7, 3) := by decide +kernel
theorem dX5_isBarred_35 : decode cX5_isBarred 35 = .ok (.iconst 1, 1) := by decide +kernel
theorem dX5_isBarred_36 : decode cX5_isBarred 36 = .ok (.goto 4, 3) := by decide +kernel
theorem dX5_isBarred_39 : decode cX5_isBarred 39 = .ok (.iconst 0, 1) := by decide +kernel
theorem dX5_isBarred_40 : decode cX5_isBarred 40 = .ok (.ireturn, 1) := by decide +kernel
theorem dX5_isBarred_41 : decode cX5_isBarred 41 = .ok (.iload_n 3, 1) := by decide +kernel
theorem dX5_isBarred_42 : decode cX5_isBarred 42 = .ok (.bipush 10, 2) := by decide +kernel
theorem dX5_isBarred_44 : decode cX5_isBarred 44 = .ok (.irem, 1) := by decide +kernel
theorem dX5_isBarred_45 : decode cX5_isBarred 45 = .ok (.iload_n 1, 1) := by decide +kernel
theorem dX5_isBarred_46 : decode cX5_isBarred 46 = .ok (.if_icmp .ge 7, 3) := by decide +kernel
theorem dX5_isBarred_49 : decode cX5_isBarred 49 = .ok (.iconst 1, 1) := by decide +kernel
theorem dX5_isBarred_50 : decode cX5_isBarred 50 = .ok (.goto 4, 3) := by decide +kernel
theorem dX5_isBarred_53 : decode cX5_isBarred 53 = .ok (.iconst 0, 1) := by decide +kernel
theorem dX5_isBarred_54 : decode cX5_isBarred 54 = .ok (.ireturn, 1) := by decide +kernel
theorem dX5_isBarred_55 : decode cX5_isBarred 55 = .ok (.iload 4, 2) := by decide +kernel
theorem dX5_isBarred_57 : decode cX5_isBarred 57 = .ok (.iload_n 1, 1) := by decide +kernel
theorem dX5_isBarred_58 : decode cX5_isBarred 58 = .ok (.iconst 2, 1) := by decide +kernel
theorem dX5_isBarred_59 : decode cX5_isBarred 59 = .ok (.irem, 1) := by decide +kernel
theorem dX5_isBarred_60 : decode cX5_isBarred 60 = .ok (.iconst 1, 1) := by decide +kernel
theorem dX5_isBarred_61 : decode cX5_isBarred 61 = .ok (.if_icmp .ne 7, 3) := by decide +kernel
theorem dX5_isBarred_64 : decode cX5_isBarred 64 = .ok (.iconst 0, 1) := by decide +kernel
theorem dX5_isBarred_65 : decode cX5_isBarred 65 = .ok (.goto 4, 3) := by decide +kernel
theorem dX5_isBarred_68 : decode cX5_isBarred 68 = .ok (.iconst 1, 1) := by decide +kernel
theorem dX5_isBarred_69 : decode cX5_isBarred 69 = .ok (.if_icmp .ne 7, 3) := by decide +kernel
theorem dX5_isBarred_72 : decode cX5_isBarred 72 = .ok (.iconst 1, 1) := by decide +kernel
theorem dX5_isBarred_73 : decode cX5_isBarred 73 = .ok (.goto 4, 3) := by decide +kernel
theorem dX5_isBarred_76 : decode cX5_isBarred 76 = .ok (.iconst 0, 1) := by decide +kernel
theorem dX5_isBarred_77 : decode cX5_isBarred 77 = .ok (.ireturn, 1) := by decide +kernel
theorem dX5_isBarred_78 : decode cX5_isBarred 78 = .ok (.iload 5, 2) := by decide +kernel
theorem dX5_isBarred_80 : decode cX5_isBarred 80 = .ok (.iload_n 1, 1) := by decide +kernel
theorem dX5_isBarred_81 : decode cX5_isBarred 81 = .ok (.iconst 5, 1) := by decide +kernel
theorem dX5_isBarred_82 : decode cX5_isBarred 82 = .ok (.irem, 1) := by decide +kernel
theorem dX5_isBarred_83 : decode cX5_isBarred 83 = .ok (.if_icmp .ge 7, 3) := by decide +kernel
theorem dX5_isBarred_86 : decode cX5_isBarred 86 = .ok (.iconst 1, 1) := by decide +kernel
theorem dX5_isBarred_87 : decode cX5_isBarred 87 = .ok (.goto 4, 3) := by decide +kernel
theorem dX5_isBarred_90 : decode cX5_isBarred 90 = .ok (.iconst 0, 1) := by decide +kernel
theorem dX5_isBarred_91 : decode cX5_isBarred 91 = .ok (.ireturn, 1) := by decide +kernel
theorem dX5_forbids_0 : decode cX5_forbids 0 = .ok (.aload_n 1, 1) := by decide +kernel
theorem dX5_forbids_1 : decode cX5_forbids 1 = .ok (.iload_n 2, 1) := by decide +kernel
theorem dX5_forbids_2 : decode cX5_forbids 2 = .ok (.iload_n 3, 1) := by decide +kernel
theorem dX5_forbids_3 : decode cX5_forbids 3 = .ok (.invokestatic 119, 3) := by decide +kernel
theorem dX5_forbids_6 : decode cX5_forbids 6 = .ok (.istore 4, 2) := by decide +kernel
theorem dX5_forbids_8 : decode cX5_forbids 8 = .ok (.iload 4, 2) := by decide +kernel
theorem dX5_forbids_10 : decode cX5_forbids 10 = .ok (.bipush (-9), 2) := by decide +kernel
theorem dX5_forbids_12 : decode cX5_forbids 12 = .ok (.if_icmp .ne 7, 3) := by decide +kernel
theorem dX5_forbids_15 : decode cX5_forbids 15 = .ok (.iconst 0, 1) := by decide +kernel
theorem dX5_forbids_16 : decode cX5_forbids 16 = .ok (.goto 11, 3) := by decide +kernel
theorem dX5_forbids_19 : decode cX5_forbids 19 = .ok (.aload_n 0, 1) := by decide +kernel
theorem dX5_forbids_20 : decode cX5_forbids 20 = .ok (.aload_n 1, 1) := by decide +kernel
theorem dX5_forbids_21 : decode cX5_forbids 21 = .ok (.iload_n 2, 1) := by decide +kernel
theorem dX5_forbids_22 : decode cX5_forbids 22 = .ok (.iload 4, 2) := by decide +kernel
theorem dX5_forbids_24 : decode cX5_forbids 24 = .ok (.invokevirtual 123, 3) := by decide +kernel
theorem dX5_forbids_27 : decode cX5_forbids 27 = .ok (.istore 5, 2) := by decide +kernel
theorem dX5_forbids_29 : decode cX5_forbids 29 = .ok (.iconst 0, 1) := by decide +kernel
theorem dX5_forbids_30 : decode cX5_forbids 30 = .ok (.istore 6, 2) := by decide +kernel
theorem dX5_forbids_32 : decode cX5_forbids 32 = .ok (.iconst 0, 1) := by decide +kernel
theorem dX5_forbids_33 : decode cX5_forbids 33 = .ok (.istore 7, 2) := by decide +kernel
theorem dX5_forbids_35 : decode cX5_forbids 35 = .ok (.iload 7, 2) := by decide +kernel
theorem dX5_forbids_37 : decode cX5_forbids 37 = .ok (.aload_n 0, 1) := by decide +kernel
theorem dX5_forbids_38 : decode cX5_forbids 38 = .ok (.getfield 79, 3) := by decide +kernel
theorem dX5_forbids_41 : decode cX5_forbids 41 = .ok (.if_icmp .ge 79, 3) := by decide +kernel
theorem dX5_forbids_44 : decode cX5_forbids 44 = .ok (.aload_n 0, 1) := by decide +kernel
theorem dX5_forbids_45 : decode cX5_forbids 45 = .ok (.getfield 16, 3) := by decide +kernel
theorem dX5_forbids_48 : decode cX5_forbids 48 = .ok (.iload 7, 2) := by decide +kernel
theorem dX5_forbids_50 : decode cX5_forbids 50 = .ok (.iaload, 1) := by decide +kernel
theorem dX5_forbids_51 : decode cX5_forbids 51 = .ok (.iload 4, 2) := by decide +kernel
theorem dX5_forbids_53 : decode cX5_forbids 53 = .ok (.if_icmp .ne 40, 3) := by decide +kernel
theorem dX5_forbids_56 : decode cX5_forbids 56 = .ok (.aload_n 0, 1) := by decide +kernel
theorem dX5_forbids_57 : decode cX5_forbids 57 = .ok (.getfield 19, 3) := by decide +kernel
theorem dX5_forbids_60 : decode cX5_forbids 60 = .ok (.iload 7, 2) := by decide +kernel
theorem dX5_forbids_62 : decode cX5_forbids 62 = .ok (.iaload, 1) := by decide +kernel
theorem dX5_forbids_63 : decode cX5_forbids 63 = .ok (.aload_n 0, 1) := by decide +kernel
theorem dX5_forbids_64 : decode cX5_forbids 64 = .ok (.getfield 22, 3) := by decide +kernel
theorem dX5_forbids_67 : decode cX5_forbids 67 = .ok (.iload 7, 2) := by decide +kernel
theorem dX5_forbids_69 : decode cX5_forbids 69 = .ok (.iaload, 1) := by decide +kernel
theorem dX5_forbids_70 : decode cX5_forbids 70 = .ok (.aload_n 0, 1) := by decide +kernel
theorem dX5_forbids_71 : decode cX5_forbids 71 = .ok (.getfield 13, 3) := by decide +kernel
theorem dX5_forbids_74 : decode cX5_forbids 74 = .ok (.iload_n 2, 1) := by decide +kernel
theorem dX5_forbids_75 : decode cX5_forbids 75 = .ok (.iaload, 1) := by decide +kernel
theorem dX5_forbids_76 : decode cX5_forbids 76 = .ok (.aload_n 1, 1) := by decide +kernel
theorem dX5_forbids_77 : decode cX5_forbids 77 = .ok (.bipush 15, 2) := by decide +kernel
theorem dX5_forbids_79 : decode cX5_forbids 79 = .ok (.iaload, 1) := by decide +kernel
theorem dX5_forbids_80 : decode cX5_forbids 80 = .ok (.iload_n 3, 1) := by decide +kernel
theorem dX5_forbids_81 : decode cX5_forbids 81 = .ok (.iload 5, 2) := by decide +kernel
theorem dX5_forbids_83 : decode cX5_forbids 83 = .ok (.invokestatic 126, 3) := by decide +kernel
theorem dX5_forbids_86 : decode cX5_forbids 86 = .ok (.ifCond .eq 7, 3) := by decide +kernel
theorem dX5_forbids_89 : decode cX5_forbids 89 = .ok (.iconst 1, 1) := by decide +kernel
theorem dX5_forbids_90 : decode cX5_forbids 90 = .ok (.goto 4, 3) := by decide +kernel
theorem dX5_forbids_93 : decode cX5_forbids 93 = .ok (.iconst 0, 1) := by decide +kernel
theorem dX5_forbids_94 : decode cX5_forbids 94 = .ok (.istore 8, 2) := by decide +kernel
theorem dX5_forbids_96 : decode cX5_forbids 96 = .ok (.iload 6, 2) := by decide +kernel
theorem dX5_forbids_98 : decode cX5_forbids 98 = .ok (.iload 8, 2) := by decide +kernel
theorem dX5_forbids_100 : decode cX5_forbids 100 = .ok (.ifCond .eq 10, 3) := by decide +kernel
theorem dX5_forbids_103 : decode cX5_forbids 103 = .ok (.iconst 1, 1) := by decide +kernel
theorem dX5_forbids_104 : decode cX5_forbids 104 = .ok (.iload 7, 2) := by decide +kernel
theorem dX5_forbids_106 : decode cX5_forbids 106 = .ok (.ishl, 1) := by decide +kernel
theorem dX5_forbids_107 : decode cX5_forbids 107 = .ok (.goto 4, 3) := by decide +kernel
theorem dX5_forbids_110 : decode cX5_forbids 110 = .ok (.iconst 0, 1) := by decide +kernel
theorem dX5_forbids_111 : decode cX5_forbids 111 = .ok (.ior, 1) := by decide +kernel
theorem dX5_forbids_112 : decode cX5_forbids 112 = .ok (.istore 6, 2) := by decide +kernel
theorem dX5_forbids_114 : decode cX5_forbids 114 = .ok (.iinc 7 1, 3) := by decide +kernel
theorem dX5_forbids_117 : decode cX5_forbids 117 = .ok (.goto (-82), 3) := by decide +kernel
theorem dX5_forbids_120 : decode cX5_forbids 120 = .ok (.iload 6, 2) := by decide +kernel
theorem dX5_forbids_122 : decode cX5_forbids 122 = .ok (.ireturn, 1) := by decide +kernel
theorem dX5_isBalking_0 : decode cX5_isBalking 0 = .ok (.aload_n 0, 1) := by decide +kernel
theorem dX5_isBalking_1 : decode cX5_isBalking 1 = .ok (.aload_n 1, 1) := by decide +kernel
theorem dX5_isBalking_2 : decode cX5_isBalking 2 = .ok (.iload_n 2, 1) := by decide +kernel
theorem dX5_isBalking_3 : decode cX5_isBalking 3 = .ok (.iload_n 3, 1) := by decide +kernel
theorem dX5_isBalking_4 : decode cX5_isBalking 4 = .ok (.invokevirtual 130, 3) := by decide +kernel
theorem dX5_isBalking_7 : decode cX5_isBalking 7 = .ok (.aload_n 0, 1) := by decide +kernel
theorem dX5_isBalking_8 : decode cX5_isBalking 8 = .ok (.aload_n 1, 1) := by decide +kernel
theorem dX5_isBalking_9 : decode cX5_isBalking 9 = .ok (.iload_n 2, 1) := by decide +kernel
theorem dX5_isBalking_10 : decode cX5_isBalking 10 = .ok (.invokevirtual 133, 3) := by decide +kernel
theorem dX5_isBalking_13 : decode cX5_isBalking 13 = .ok (.iand, 1) := by decide +kernel
theorem dX5_isBalking_14 : decode cX5_isBalking 14 = .ok (.ifCond .eq 7, 3) := by decide +kernel
theorem dX5_isBalking_17 : decode cX5_isBalking 17 = .ok (.iconst 1, 1) := by decide +kernel
theorem dX5_isBalking_18 : decode cX5_isBalking 18 = .ok (.goto 4, 3) := by decide +kernel
theorem dX5_isBalking_21 : decode cX5_isBalking 21 = .ok (.iconst 0, 1) := by decide +kernel
theorem dX5_isBalking_22 : decode cX5_isBalking 22 = .ok (.ireturn, 1) := by decide +kernel
theorem dX5_about_0 : decode cX5_about 0 = .ok (.aload_n 0, 1) := by decide +kernel
theorem dX5_about_1 : decode cX5_about 1 = .ok (.iconst 0, 1) := by decide +kernel
theorem dX5_about_2 : decode cX5_about 2 = .ok (.putfield 68, 3) := by decide +kernel
theorem dX5_about_5 : decode cX5_about 5 = .ok (.iload_n 1, 1) := by decide +kernel
theorem dX5_about_6 : decode cX5_about 6 = .ok (.tableswitch 83 0 6 #[42, 47, 52, 60, 68, 73, 78], 42) := by decide +kernel
theorem dX5_about_48 : decode cX5_about 48 = .ok (.aload_n 0, 1) := by decide +kernel
theorem dX5_about_49 : decode cX5_about 49 = .ok (.getfield 72, 3) := by decide +kernel
theorem dX5_about_52 : decode cX5_about 52 = .ok (.ireturn, 1) := by decide +kernel
theorem dX5_about_53 : decode cX5_about 53 = .ok (.aload_n 0, 1) := by decide +kernel
theorem dX5_about_54 : decode cX5_about 54 = .ok (.getfield 79, 3) := by decide +kernel
theorem dX5_about_57 : decode cX5_about 57 = .ok (.ireturn, 1) := by decide +kernel
theorem dX5_about_58 : decode cX5_about 58 = .ok (.aload_n 0, 1) := by decide +kernel
theorem dX5_about_59 : decode cX5_about 59 = .ok (.getfield 31, 3) := by decide +kernel
theorem dX5_about_62 : decode cX5_about 62 = .ok (.bipush 15, 2) := by decide +kernel
theorem dX5_about_64 : decode cX5_about 64 = .ok (.iaload, 1) := by decide +kernel
theorem dX5_about_65 : decode cX5_about 65 = .ok (.ireturn, 1) := by decide +kernel
theorem dX5_about_66 : decode cX5_about 66 = .ok (.aload_n 0, 1) := by decide +kernel
theorem dX5_about_67 : decode cX5_about 67 = .ok (.getfield 31, 3) := by decide +kernel
theorem dX5_about_70 : decode cX5_about 70 = .ok (.bipush 16, 2) := by decide +kernel
theorem dX5_about_72 : decode cX5_about 72 = .ok (.iaload, 1) := by decide +kernel
theorem dX5_about_73 : decode cX5_about 73 = .ok (.ireturn, 1) := by decide +kernel
theorem dX5_about_74 : decode cX5_about 74 = .ok (.aload_n 0, 1) := by decide +kernel
theorem dX5_about_75 : decode cX5_about 75 = .ok (.getfield 114, 3) := by decide +kernel
theorem dX5_about_78 : decode cX5_about 78 = .ok (.ireturn, 1) := by decide +kernel
theorem dX5_about_79 : decode cX5_about 79 = .ok (.aload_n 0, 1) := by decide +kernel
theorem dX5_about_80 : decode cX5_about 80 = .ok (.getfield 137, 3) := by decide +kernel
theorem dX5_about_83 : decode cX5_about 83 = .ok (.ireturn, 1) := by decide +kernel
theorem dX5_about_84 : decode cX5_about 84 = .ok (.aload_n 0, 1) := by decide +kernel
theorem dX5_about_85 : decode cX5_about 85 = .ok (.getfield 84, 3) := by decide +kernel
theorem dX5_about_88 : decode cX5_about 88 = .ok (.ireturn, 1) := by decide +kernel
theorem dX5_about_89 : decode cX5_about 89 = .ok (.bipush (-2), 2) := by decide +kernel
theorem dX5_about_91 : decode cX5_about 91 = .ok (.ireturn, 1) := by decide +kernel
theorem dX5_knowers_0 : decode cX5_knowers 0 = .ok (.iconst 0, 1) := by decide +kernel
theorem dX5_knowers_1 : decode cX5_knowers 1 = .ok (.istore_n 2, 1) := by decide +kernel
theorem dX5_knowers_2 : decode cX5_knowers 2 = .ok (.iconst 0, 1) := by decide +kernel
theorem dX5_knowers_3 : decode cX5_knowers 3 = .ok (.istore_n 3, 1) := by decide +kernel
theorem dX5_knowers_4 : decode cX5_knowers 4 = .ok (.iload_n 3, 1) := by decide +kernel
theorem dX5_knowers_5 : decode cX5_knowers 5 = .ok (.aload_n 0, 1) := by decide +kernel
theorem dX5_knowers_6 : decode cX5_knowers 6 = .ok (.getfield 72, 3) := by decide +kernel
theorem dX5_knowers_9 : decode cX5_knowers 9 = .ok (.if_icmp .ge 35, 3) := by decide +kernel
theorem dX5_knowers_12 : decode cX5_knowers 12 = .ok (.iload_n 2, 1) := by decide +kernel
theorem dX5_knowers_13 : decode cX5_knowers 13 = .ok (.aload_n 0, 1) := by decide +kernel
theorem dX5_knowers_14 : decode cX5_knowers 14 = .ok (.aload_n 0, 1) := by decide +kernel
theorem dX5_knowers_15 : decode cX5_knowers 15 = .ok (.getfield 31, 3) := by decide +kernel
theorem dX5_knowers_18 : decode cX5_knowers 18 = .ok (.iload_n 3, 1) := by decide +kernel
theorem dX5_knowers_19 : decode cX5_knowers 19 = .ok (.invokevirtual 133, 3) := by decide +kernel
theorem dX5_knowers_22 : decode cX5_knowers 22 = .ok (.iload_n 1, 1) := by decide +kernel
theorem dX5_knowers_23 : decode cX5_knowers 23 = .ok (.invokestatic 140, 3) := by decide +kernel
theorem dX5_knowers_26 : decode cX5_knowers 26 = .ok (.ifCond .eq 9, 3) := by decide +kernel
theorem dX5_knowers_29 : decode cX5_knowers 29 = .ok (.iconst 1, 1) := by decide +kernel
theorem dX5_knowers_30 : decode cX5_knowers 30 = .ok (.iload_n 3, 1) := by decide +kernel
theorem dX5_knowers_31 : decode cX5_knowers 31 = .ok (.ishl, 1) := by decide +kernel
theorem dX5_knowers_32 : decode cX5_knowers 32 = .ok (.goto 4, 3) := by decide +kernel
theorem dX5_knowers_35 : decode cX5_knowers 35 = .ok (.iconst 0, 1) := by decide +kernel
theorem dX5_knowers_36 : decode cX5_knowers 36 = .ok (.ior, 1) := by decide +kernel
theorem dX5_knowers_37 : decode cX5_knowers 37 = .ok (.istore_n 2, 1) := by decide +kernel
theorem dX5_knowers_38 : decode cX5_knowers 38 = .ok (.iinc 3 1, 3) := by decide +kernel
theorem dX5_knowers_41 : decode cX5_knowers 41 = .ok (.goto (-37), 3) := by decide +kernel
theorem dX5_knowers_44 : decode cX5_knowers 44 = .ok (.iload_n 2, 1) := by decide +kernel
theorem dX5_knowers_45 : decode cX5_knowers 45 = .ok (.ireturn, 1) := by decide +kernel
theorem dX5_article_0 : decode cX5_article 0 = .ok (.aload_n 0, 1) := by decide +kernel
theorem dX5_article_1 : decode cX5_article 1 = .ok (.iconst 0, 1) := by decide +kernel
theorem dX5_article_2 : decode cX5_article 2 = .ok (.putfield 68, 3) := by decide +kernel
theorem dX5_article_5 : decode cX5_article 5 = .ok (.aload_n 0, 1) := by decide +kernel
theorem dX5_article_6 : decode cX5_article 6 = .ok (.iload_n 1, 1) := by decide +kernel
theorem dX5_article_7 : decode cX5_article 7 = .ok (.invokevirtual 144, 3) := by decide +kernel
theorem dX5_article_10 : decode cX5_article 10 = .ok (.ifCond .eq 5, 3) := by decide +kernel
theorem dX5_article_13 : decode cX5_article 13 = .ok (.iconst (-1), 1) := by decide +kernel
theorem dX5_article_14 : decode cX5_article 14 = .ok (.ireturn, 1) := by decide +kernel
theorem dX5_article_15 : decode cX5_article 15 = .ok (.iload_n 2, 1) := by decide +kernel
theorem dX5_article_16 : decode cX5_article 16 = .ok (.tableswitch 59 0 3 #[32, 39, 46, 53], 32) := by decide +kernel
theorem dX5_article_48 : decode cX5_article 48 = .ok (.aload_n 0, 1) := by decide +kernel
theorem dX5_article_49 : decode cX5_article 49 = .ok (.getfield 16, 3) := by decide +kernel
theorem dX5_article_52 : decode cX5_article 52 = .ok (.iload_n 1, 1) := by decide +kernel
theorem dX5_article_53 : decode cX5_article 53 = .ok (.iaload, 1) := by decide +kernel
theorem dX5_article_54 : decode cX5_article 54 = .ok (.ireturn, 1) := by decide +kernel
theorem dX5_article_55 : decode cX5_article 55 = .ok (.aload_n 0, 1) := by decide +kernel
theorem dX5_article_56 : decode cX5_article 56 = .ok (.getfield 19, 3) := by decide +kernel
theorem dX5_article_59 : decode cX5_article 59 = .ok (.iload_n 1, 1) := by decide +kernel
theorem dX5_article_60 : decode cX5_article 60 = .ok (.iaload, 1) := by decide +kernel
theorem dX5_article_61 : decode cX5_article 61 = .ok (.ireturn, 1) := by decide +kernel
theorem dX5_article_62 : decode cX5_article 62 = .ok (.aload_n 0, 1) := by decide +kernel
theorem dX5_article_63 : decode cX5_article 63 = .ok (.getfield 22, 3) := by decide +kernel
theorem dX5_article_66 : decode cX5_article 66 = .ok (.iload_n 1, 1) := by decide +kernel
theorem dX5_article_67 : decode cX5_article 67 = .ok (.iaload, 1) := by decide +kernel
theorem dX5_article_68 : decode cX5_article 68 = .ok (.ireturn, 1) := by decide +kernel
theorem dX5_article_69 : decode cX5_article 69 = .ok (.aload_n 0, 1) := by decide +kernel
theorem dX5_article_70 : decode cX5_article 70 = .ok (.iload_n 1, 1) := by decide +kernel
theorem dX5_article_71 : decode cX5_article 71 = .ok (.invokevirtual 148, 3) := by decide +kernel
theorem dX5_article_74 : decode cX5_article 74 = .ok (.ireturn, 1) := by decide +kernel
theorem dX5_article_75 : decode cX5_article 75 = .ok (.bipush (-2), 2) := by decide +kernel
theorem dX5_article_77 : decode cX5_article 77 = .ok (.ireturn, 1) := by decide +kernel
theorem dX5_mule_0 : decode cX5_mule 0 = .ok (.aload_n 0, 1) := by decide +kernel
theorem dX5_mule_1 : decode cX5_mule 1 = .ok (.iconst 0, 1) := by decide +kernel
theorem dX5_mule_2 : decode cX5_mule 2 = .ok (.putfield 68, 3) := by decide +kernel
theorem dX5_mule_5 : decode cX5_mule 5 = .ok (.aload_n 0, 1) := by decide +kernel
theorem dX5_mule_6 : decode cX5_mule 6 = .ok (.iload_n 1, 1) := by decide +kernel
theorem dX5_mule_7 : decode cX5_mule 7 = .ok (.invokevirtual 151, 3) := by decide +kernel
theorem dX5_mule_10 : decode cX5_mule 10 = .ok (.ifCond .eq 5, 3) := by decide +kernel
theorem dX5_mule_13 : decode cX5_mule 13 = .ok (.iconst (-1), 1) := by decide +kernel
theorem dX5_mule_14 : decode cX5_mule 14 = .ok (.ireturn, 1) := by decide +kernel
theorem dX5_mule_15 : decode cX5_mule 15 = .ok (.iload_n 2, 1) := by decide +kernel
theorem dX5_mule_16 : decode cX5_mule 16 = .ok (.tableswitch 81 0 4 #[36, 45, 52, 61, 71], 36) := by decide +kernel
theorem dX5_mule_52 : decode cX5_mule 52 = .ok (.aload_n 0, 1) := by decide +kernel
theorem dX5_mule_53 : decode cX5_mule 53 = .ok (.getfield 31, 3) := by decide +kernel
theorem dX5_mule_56 : decode cX5_mule 56 = .ok (.iconst 0, 1) := by decide +kernel
theorem dX5_mule_57 : decode cX5_mule 57 = .ok (.iload_n 1, 1) := by decide +kernel
theorem dX5_mule_58 : decode cX5_mule 58 = .ok (.iadd, 1) := by decide +kernel
theorem dX5_mule_59 : decode cX5_mule 59 = .ok (.iaload, 1) := by decide +kernel
theorem dX5_mule_60 : decode cX5_mule 60 = .ok (.ireturn, 1) := by decide +kernel
theorem dX5_mule_61 : decode cX5_mule 61 = .ok (.aload_n 0, 1) := by decide +kernel
theorem dX5_mule_62 : decode cX5_mule 62 = .ok (.getfield 13, 3) := by decide +kernel
theorem dX5_mule_65 : decode cX5_mule 65 = .ok (.iload_n 1, 1) := by decide +kernel
theorem dX5_mule_66 : decode cX5_mule 66 = .ok (.iaload, 1) := by decide +kernel
theorem dX5_mule_67 : decode cX5_mule 67 = .ok (.ireturn, 1) := by decide +kernel
theorem dX5_mule_68 : decode cX5_mule 68 = .ok (.aload_n 0, 1) := by decide +kernel
theorem dX5_mule_69 : decode cX5_mule 69 = .ok (.getfield 31, 3) := by decide +kernel
theorem dX5_mule_72 : decode cX5_mule 72 = .ok (.iconst 5, 1) := by decide +kernel
theorem dX5_mule_73 : decode cX5_mule 73 = .ok (.iload_n 1, 1) := by decide +kernel
theorem dX5_mule_74 : decode cX5_mule 74 = .ok (.iadd, 1) := by decide +kernel
theorem dX5_mule_75 : decode cX5_mule 75 = .ok (.iaload, 1) := by decide +kernel
theorem dX5_mule_76 : decode cX5_mule 76 = .ok (.ireturn, 1) := by decide +kernel
theorem dX5_mule_77 : decode cX5_mule 77 = .ok (.aload_n 0, 1) := by decide +kernel
theorem dX5_mule_78 : decode cX5_mule 78 = .ok (.getfield 31, 3) := by decide +kernel
theorem dX5_mule_81 : decode cX5_mule 81 = .ok (.bipush 10, 2) := by decide +kernel
theorem dX5_mule_83 : decode cX5_mule 83 = .ok (.iload_n 1, 1) := by decide +kernel
theorem dX5_mule_84 : decode cX5_mule 84 = .ok (.iadd, 1) := by decide +kernel
theorem dX5_mule_85 : decode cX5_mule 85 = .ok (.iaload, 1) := by decide +kernel
theorem dX5_mule_86 : decode cX5_mule 86 = .ok (.ireturn, 1) := by decide +kernel
theorem dX5_mule_87 : decode cX5_mule 87 = .ok (.aload_n 0, 1) := by decide +kernel
theorem dX5_mule_88 : decode cX5_mule 88 = .ok (.aload_n 0, 1) := by decide +kernel
theorem dX5_mule_89 : decode cX5_mule 89 = .ok (.getfield 31, 3) := by decide +kernel
theorem dX5_mule_92 : decode cX5_mule 92 = .ok (.iload_n 1, 1) := by decide +kernel
theorem dX5_mule_93 : decode cX5_mule 93 = .ok (.invokevirtual 133, 3) := by decide +kernel
theorem dX5_mule_96 : decode cX5_mule 96 = .ok (.ireturn, 1) := by decide +kernel
theorem dX5_mule_97 : decode cX5_mule 97 = .ok (.bipush (-2), 2) := by decide +kernel
theorem dX5_mule_99 : decode cX5_mule 99 = .ok (.ireturn, 1) := by decide +kernel
theorem dX5_noStep_0 : decode cX5_noStep 0 = .ok (.aload_n 0, 1) := by decide +kernel
theorem dX5_noStep_1 : decode cX5_noStep 1 = .ok (.iload_n 1, 1) := by decide +kernel
theorem dX5_noStep_2 : decode cX5_noStep 2 = .ok (.invokevirtual 151, 3) := by decide +kernel
theorem dX5_noStep_5 : decode cX5_noStep 5 = .ok (.ifCond .eq 5, 3) := by decide +kernel
theorem dX5_noStep_8 : decode cX5_noStep 8 = .ok (.iconst (-1), 1) := by decide +kernel
theorem dX5_noStep_9 : decode cX5_noStep 9 = .ok (.ireturn, 1) := by decide +kernel
theorem dX5_noStep_10 : decode cX5_noStep 10 = .ok (.iload_n 2, 1) := by decide +kernel
theorem dX5_noStep_11 : decode cX5_noStep 11 = .ok (.i2l, 1) := by decide +kernel
theorem dX5_noStep_12 : decode cX5_noStep 12 = .ok (.lconst 0, 1) := by decide +kernel
theorem dX5_noStep_13 : decode cX5_noStep 13 = .ok (.lconst 1, 1) := by decide +kernel
theorem dX5_noStep_14 : decode cX5_noStep 14 = .ok (.invokestatic 75, 3) := by decide +kernel
theorem dX5_noStep_17 : decode cX5_noStep 17 = .ok (.ifCond .ne 6, 3) := by decide +kernel
theorem dX5_noStep_20 : decode cX5_noStep 20 = .ok (.bipush (-2), 2) := by decide +kernel
theorem dX5_noStep_22 : decode cX5_noStep 22 = .ok (.ireturn, 1) := by decide +kernel
theorem dX5_noStep_23 : decode cX5_noStep 23 = .ok (.aload_n 0, 1) := by decide +kernel
theorem dX5_noStep_24 : decode cX5_noStep 24 = .ok (.getfield 31, 3) := by decide +kernel
theorem dX5_noStep_27 : decode cX5_noStep 27 = .ok (.iload_n 1, 1) := by decide +kernel
theorem dX5_noStep_28 : decode cX5_noStep 28 = .ok (.iload_n 2, 1) := by decide +kernel
theorem dX5_noStep_29 : decode cX5_noStep 29 = .ok (.invokestatic 119, 3) := by decide +kernel
theorem dX5_noStep_32 : decode cX5_noStep 32 = .ok (.bipush (-9), 2) := by decide +kernel
theorem dX5_noStep_34 : decode cX5_noStep 34 = .ok (.if_icmp .ne 8, 3) := by decide +kernel
theorem dX5_noStep_37 : decode cX5_noStep 37 = .ok (.bipush (-3), 2) := by decide +kernel
theorem dX5_noStep_39 : decode cX5_noStep 39 = .ok (.goto 4, 3) := by decide +kernel
theorem dX5_noStep_42 : decode cX5_noStep 42 = .ok (.iconst 0, 1) := by decide +kernel
theorem dX5_noStep_43 : decode cX5_noStep 43 = .ok (.ireturn, 1) := by decide +kernel
theorem dX5_by_0 : decode cX5_by 0 = .ok (.aload_n 0, 1) := by decide +kernel
theorem dX5_by_1 : decode cX5_by 1 = .ok (.iconst 0, 1) := by decide +kernel
theorem dX5_by_2 : decode cX5_by 2 = .ok (.putfield 68, 3) := by decide +kernel
theorem dX5_by_5 : decode cX5_by 5 = .ok (.aload_n 0, 1) := by decide +kernel
theorem dX5_by_6 : decode cX5_by 6 = .ok (.iload_n 1, 1) := by decide +kernel
theorem dX5_by_7 : decode cX5_by 7 = .ok (.iload_n 2, 1) := by decide +kernel
theorem dX5_by_8 : decode cX5_by 8 = .ok (.invokevirtual 154, 3) := by decide +kernel
theorem dX5_by_11 : decode cX5_by 11 = .ok (.istore_n 3, 1) := by decide +kernel
theorem dX5_by_12 : decode cX5_by 12 = .ok (.iload_n 3, 1) := by decide +kernel
theorem dX5_by_13 : decode cX5_by 13 = .ok (.ifCond .eq 7, 3) := by decide +kernel
theorem dX5_by_16 : decode cX5_by 16 = .ok (.iload_n 3, 1) := by decide +kernel
theorem dX5_by_17 : decode cX5_by 17 = .ok (.goto 13, 3) := by decide +kernel
theorem dX5_by_20 : decode cX5_by 20 = .ok (.aload_n 0, 1) := by decide +kernel
theorem dX5_by_21 : decode cX5_by 21 = .ok (.aload_n 0, 1) := by decide +kernel
theorem dX5_by_22 : decode cX5_by 22 = .ok (.getfield 31, 3) := by decide +kernel
theorem dX5_by_25 : decode cX5_by 25 = .ok (.iload_n 1, 1) := by decide +kernel
theorem dX5_by_26 : decode cX5_by 26 = .ok (.iload_n 2, 1) := by decide +kernel
theorem dX5_by_27 : decode cX5_by 27 = .ok (.invokevirtual 130, 3) := by decide +kernel
theorem dX5_by_30 : decode cX5_by 30 = .ok (.ireturn, 1) := by decide +kernel
theorem dX5_leastOf_0 : decode cX5_leastOf 0 = .ok (.bipush (-9), 2) := by decide +kernel
theorem dX5_leastOf_2 : decode cX5_leastOf 2 = .ok (.istore_n 1, 1) := by decide +kernel
theorem dX5_leastOf_3 : decode cX5_leastOf 3 = .ok (.iconst 4, 1) := by decide +kernel
theorem dX5_leastOf_4 : decode cX5_leastOf 4 = .ok (.istore_n 2, 1) := by decide +kernel
theorem dX5_leastOf_5 : decode cX5_leastOf 5 = .ok (.iload_n 2, 1) := by decide +kernel
theorem dX5_leastOf_6 : decode cX5_leastOf 6 = .ok (.ifCond .lt 23, 3) := by decide +kernel
theorem dX5_leastOf_9 : decode cX5_leastOf 9 = .ok (.iload_n 0, 1) := by decide +kernel
theorem dX5_leastOf_10 : decode cX5_leastOf 10 = .ok (.iload_n 2, 1) := by decide +kernel
theorem dX5_leastOf_11 : decode cX5_leastOf 11 = .ok (.invokestatic 140, 3) := by decide +kernel
theorem dX5_leastOf_14 : decode cX5_leastOf 14 = .ok (.ifCond .eq 7, 3) := by decide +kernel
theorem dX5_leastOf_17 : decode cX5_leastOf 17 = .ok (.iload_n 2, 1) := by decide +kernel
theorem dX5_leastOf_18 : decode cX5_leastOf 18 = .ok (.goto 4, 3) := by decide +kernel
theorem dX5_leastOf_21 : decode cX5_leastOf 21 = .ok (.iload_n 1, 1) := by decide +kernel
theorem dX5_leastOf_22 : decode cX5_leastOf 22 = .ok (.istore_n 1, 1) := by decide +kernel
theorem dX5_leastOf_23 : decode cX5_leastOf 23 = .ok (.iinc 2 (-1), 3) := by decide +kernel
theorem dX5_leastOf_26 : decode cX5_leastOf 26 = .ok (.goto (-21), 3) := by decide +kernel
theorem dX5_leastOf_29 : decode cX5_leastOf 29 = .ok (.iload_n 1, 1) := by decide +kernel
theorem dX5_leastOf_30 : decode cX5_leastOf 30 = .ok (.ireturn, 1) := by decide +kernel
theorem dX5_balks_0 : decode cX5_balks 0 = .ok (.aload_n 0, 1) := by decide +kernel
theorem dX5_balks_1 : decode cX5_balks 1 = .ok (.iconst 0, 1) := by decide +kernel
theorem dX5_balks_2 : decode cX5_balks 2 = .ok (.putfield 68, 3) := by decide +kernel
theorem dX5_balks_5 : decode cX5_balks 5 = .ok (.aload_n 0, 1) := by decide +kernel
theorem dX5_balks_6 : decode cX5_balks 6 = .ok (.iload_n 1, 1) := by decide +kernel
theorem dX5_balks_7 : decode cX5_balks 7 = .ok (.iload_n 2, 1) := by decide +kernel
theorem dX5_balks_8 : decode cX5_balks 8 = .ok (.invokevirtual 154, 3) := by decide +kernel
theorem dX5_balks_11 : decode cX5_balks 11 = .ok (.istore_n 3, 1) := by decide +kernel
theorem dX5_balks_12 : decode cX5_balks 12 = .ok (.iload_n 3, 1) := by decide +kernel
theorem dX5_balks_13 : decode cX5_balks 13 = .ok (.ifCond .eq 7, 3) := by decide +kernel
theorem dX5_balks_16 : decode cX5_balks 16 = .ok (.iload_n 3, 1) := by decide +kernel
theorem dX5_balks_17 : decode cX5_balks 17 = .ok (.goto 26, 3) := by decide +kernel
theorem dX5_balks_20 : decode cX5_balks 20 = .ok (.aload_n 0, 1) := by decide +kernel
theorem dX5_balks_21 : decode cX5_balks 21 = .ok (.aload_n 0, 1) := by decide +kernel
theorem dX5_balks_22 : decode cX5_balks 22 = .ok (.getfield 31, 3) := by decide +kernel
theorem dX5_balks_25 : decode cX5_balks 25 = .ok (.iload_n 1, 1) := by decide +kernel
theorem dX5_balks_26 : decode cX5_balks 26 = .ok (.iload_n 2, 1) := by decide +kernel
theorem dX5_balks_27 : decode cX5_balks 27 = .ok (.invokevirtual 130, 3) := by decide +kernel
theorem dX5_balks_30 : decode cX5_balks 30 = .ok (.aload_n 0, 1) := by decide +kernel
theorem dX5_balks_31 : decode cX5_balks 31 = .ok (.aload_n 0, 1) := by decide +kernel
theorem dX5_balks_32 : decode cX5_balks 32 = .ok (.getfield 31, 3) := by decide +kernel
theorem dX5_balks_35 : decode cX5_balks 35 = .ok (.iload_n 1, 1) := by decide +kernel
theorem dX5_balks_36 : decode cX5_balks 36 = .ok (.invokevirtual 133, 3) := by decide +kernel
theorem dX5_balks_39 : decode cX5_balks 39 = .ok (.iand, 1) := by decide +kernel
theorem dX5_balks_40 : decode cX5_balks 40 = .ok (.invokestatic 158, 3) := by decide +kernel
theorem dX5_balks_43 : decode cX5_balks 43 = .ok (.ireturn, 1) := by decide +kernel
theorem dX5_note_0 : decode cX5_note 0 = .ok (.aload_n 0, 1) := by decide +kernel
theorem dX5_note_1 : decode cX5_note 1 = .ok (.getfield 114, 3) := by decide +kernel
theorem dX5_note_4 : decode cX5_note 4 = .ok (.bipush 14, 2) := by decide +kernel
theorem dX5_note_6 : decode cX5_note 6 = .ok (.if_icmp .ne 43, 3) := by decide +kernel
theorem dX5_note_9 : decode cX5_note 9 = .ok (.iconst 0, 1) := by decide +kernel
theorem dX5_note_10 : decode cX5_note 10 = .ok (.istore_n 1, 1) := by decide +kernel
theorem dX5_note_11 : decode cX5_note 11 = .ok (.iload_n 1, 1) := by decide +kernel
theorem dX5_note_12 : decode cX5_note 12 = .ok (.sipush 221, 3) := by decide +kernel
theorem dX5_note_15 : decode cX5_note 15 = .ok (.if_icmp .ge 24, 3) := by decide +kernel
theorem dX5_note_18 : decode cX5_note 18 = .ok (.aload_n 0, 1) := by decide +kernel
theorem dX5_note_19 : decode cX5_note 19 = .ok (.getfield 37, 3) := by decide +kernel
theorem dX5_note_22 : decode cX5_note 22 = .ok (.iload_n 1, 1) := by decide +kernel
theorem dX5_note_23 : decode cX5_note 23 = .ok (.aload_n 0, 1) := by decide +kernel
theorem dX5_note_24 : decode cX5_note 24 = .ok (.getfield 37, 3) := by decide +kernel
theorem dX5_note_27 : decode cX5_note 27 = .ok (.iload_n 1, 1) := by decide +kernel
theorem dX5_note_28 : decode cX5_note 28 = .ok (.bipush 17, 2) := by decide +kernel
theorem dX5_note_30 : decode cX5_note 30 = .ok (.iadd, 1) := by decide +kernel
theorem dX5_note_31 : decode cX5_note 31 = .ok (.iaload, 1) := by decide +kernel
theorem dX5_note_32 : decode cX5_note 32 = .ok (.iastore, 1) := by decide +kernel
theorem dX5_note_33 : decode cX5_note 33 = .ok (.iinc 1 1, 3) := by decide +kernel
theorem dX5_note_36 : decode cX5_note 36 = .ok (.goto (-25), 3) := by decide +kernel
theorem dX5_note_39 : decode cX5_note 39 = .ok (.aload_n 0, 1) := by decide +kernel
theorem dX5_note_40 : decode cX5_note 40 = .ok (.dup, 1) := by decide +kernel
theorem dX5_note_41 : decode cX5_note 41 = .ok (.getfield 114, 3) := by decide +kernel
theorem dX5_note_44 : decode cX5_note 44 = .ok (.iconst 1, 1) := by decide +kernel
theorem dX5_note_45 : decode cX5_note 45 = .ok (.isub, 1) := by decide +kernel
theorem dX5_note_46 : decode cX5_note 46 = .ok (.putfield 114, 3) := by decide +kernel
theorem dX5_note_49 : decode cX5_note 49 = .ok (.iconst 0, 1) := by decide +kernel
theorem dX5_note_50 : decode cX5_note 50 = .ok (.istore_n 1, 1) := by decide +kernel
theorem dX5_note_51 : decode cX5_note 51 = .ok (.iload_n 1, 1) := by decide +kernel
theorem dX5_note_52 : decode cX5_note 52 = .ok (.bipush 17, 2) := by decide +kernel
theorem dX5_note_54 : decode cX5_note 54 = .ok (.if_icmp .ge 29, 3) := by decide +kernel
theorem dX5_note_57 : decode cX5_note 57 = .ok (.aload_n 0, 1) := by decide +kernel
theorem dX5_note_58 : decode cX5_note 58 = .ok (.getfield 37, 3) := by decide +kernel
theorem dX5_note_61 : decode cX5_note 61 = .ok (.bipush 17, 2) := by decide +kernel
theorem dX5_note_63 : decode cX5_note 63 = .ok (.aload_n 0, 1) := by decide +kernel
theorem dX5_note_64 : decode cX5_note 64 = .ok (.getfield 114, 3) := by decide +kernel
theorem dX5_note_67 : decode cX5_note 67 = .ok (.imul, 1) := by decide +kernel
theorem dX5_note_68 : decode cX5_note 68 = .ok (.iload_n 1, 1) := by decide +kernel
theorem dX5_note_69 : decode cX5_note 69 = .ok (.iadd, 1) := by decide +kernel
theorem dX5_note_70 : decode cX5_note 70 = .ok (.aload_n 0, 1) := by decide +kernel
theorem dX5_note_71 : decode cX5_note 71 = .ok (.getfield 31, 3) := by decide +kernel
theorem dX5_note_74 : decode cX5_note 74 = .ok (.iload_n 1, 1) := by decide +kernel
theorem dX5_note_75 : decode cX5_note 75 = .ok (.iaload, 1) := by decide +kernel
theorem dX5_note_76 : decode cX5_note 76 = .ok (.iastore, 1) := by decide +kernel
theorem dX5_note_77 : decode cX5_note 77 = .ok (.iinc 1 1, 3) := by decide +kernel
theorem dX5_note_80 : decode cX5_note 80 = .ok (.goto (-29), 3) := by decide +kernel
theorem dX5_note_83 : decode cX5_note 83 = .ok (.aload_n 0, 1) := by decide +kernel
theorem dX5_note_84 : decode cX5_note 84 = .ok (.dup, 1) := by decide +kernel
theorem dX5_note_85 : decode cX5_note 85 = .ok (.getfield 114, 3) := by decide +kernel
theorem dX5_note_88 : decode cX5_note 88 = .ok (.iconst 1, 1) := by decide +kernel
theorem dX5_note_89 : decode cX5_note 89 = .ok (.iadd, 1) := by decide +kernel
theorem dX5_note_90 : decode cX5_note 90 = .ok (.putfield 114, 3) := by decide +kernel
theorem dX5_note_93 : decode cX5_note 93 = .ok (.return_, 1) := by decide +kernel
theorem dX5_go_0 : decode cX5_go 0 = .ok (.aload_n 1, 1) := by decide +kernel
theorem dX5_go_1 : decode cX5_go 1 = .ok (.bipush 16, 2) := by decide +kernel
theorem dX5_go_3 : decode cX5_go 3 = .ok (.dup2, 1) := by decide +kernel
theorem dX5_go_4 : decode cX5_go 4 = .ok (.iaload, 1) := by decide +kernel
theorem dX5_go_5 : decode cX5_go 5 = .ok (.aload_n 0, 1) := by decide +kernel
theorem dX5_go_6 : decode cX5_go 6 = .ok (.aload_n 1, 1) := by decide +kernel
theorem dX5_go_7 : decode cX5_go 7 = .ok (.iload_n 2, 1) := by decide +kernel
theorem dX5_go_8 : decode cX5_go 8 = .ok (.iload_n 3, 1) := by decide +kernel
theorem dX5_go_9 : decode cX5_go 9 = .ok (.invokevirtual 130, 3) := by decide +kernel
theorem dX5_go_12 : decode cX5_go 12 = .ok (.invokestatic 161, 3) := by decide +kernel
theorem dX5_go_15 : decode cX5_go 15 = .ok (.iadd, 1) := by decide +kernel
theorem dX5_go_16 : decode cX5_go 16 = .ok (.iastore, 1) := by decide +kernel
theorem dX5_go_17 : decode cX5_go 17 = .ok (.aload_n 1, 1) := by decide +kernel
theorem dX5_go_18 : decode cX5_go 18 = .ok (.iconst 0, 1) := by decide +kernel
theorem dX5_go_19 : decode cX5_go 19 = .ok (.iload_n 2, 1) := by decide +kernel
theorem dX5_go_20 : decode cX5_go 20 = .ok (.iadd, 1) := by decide +kernel
theorem dX5_go_21 : decode cX5_go 21 = .ok (.aload_n 1, 1) := by decide +kernel
theorem dX5_go_22 : decode cX5_go 22 = .ok (.iload_n 2, 1) := by decide +kernel
theorem dX5_go_23 : decode cX5_go 23 = .ok (.iload_n 3, 1) := by decide +kernel
theorem dX5_go_24 : decode cX5_go 24 = .ok (.invokestatic 119, 3) := by decide +kernel
theorem dX5_go_27 : decode cX5_go 27 = .ok (.iastore, 1) := by decide +kernel
theorem dX5_go_28 : decode cX5_go 28 = .ok (.aload_n 1, 1) := by decide +kernel
theorem dX5_go_29 : decode cX5_go 29 = .ok (.bipush 15, 2) := by decide +kernel
theorem dX5_go_31 : decode cX5_go 31 = .ok (.dup2, 1) := by decide +kernel
theorem dX5_go_32 : decode cX5_go 32 = .ok (.iaload, 1) := by decide +kernel
theorem dX5_go_33 : decode cX5_go 33 = .ok (.iconst 1, 1) := by decide +kernel
theorem dX5_go_34 : decode cX5_go 34 = .ok (.iadd, 1) := by decide +kernel
theorem dX5_go_35 : decode cX5_go 35 = .ok (.iastore, 1) := by decide +kernel
theorem dX5_go_36 : decode cX5_go 36 = .ok (.return_, 1) := by decide +kernel
theorem dX5_step_0 : decode cX5_step 0 = .ok (.aload_n 0, 1) := by decide +kernel
theorem dX5_step_1 : decode cX5_step 1 = .ok (.iconst 0, 1) := by decide +kernel
theorem dX5_step_2 : decode cX5_step 2 = .ok (.putfield 68, 3) := by decide +kernel
theorem dX5_step_5 : decode cX5_step 5 = .ok (.aload_n 0, 1) := by decide +kernel
theorem dX5_step_6 : decode cX5_step 6 = .ok (.iload_n 1, 1) := by decide +kernel
theorem dX5_step_7 : decode cX5_step 7 = .ok (.iload_n 2, 1) := by decide +kernel
theorem dX5_step_8 : decode cX5_step 8 = .ok (.invokevirtual 154, 3) := by decide +kernel

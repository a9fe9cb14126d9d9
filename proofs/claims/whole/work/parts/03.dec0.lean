theorem dX0_init_0 : decode cX0_init 0 = .ok (.aload_n 0, 1) := by decide +kernel
theorem dX0_init_1 : decode cX0_init 1 = .ok (.invokespecial 3, 3) := by decide +kernel
theorem dX0_init_4 : decode cX0_init 4 = .ok (.aload_n 0, 1) := by decide +kernel
theorem dX0_init_5 : decode cX0_init 5 = .ok (.iconst 5, 1) := by decide +kernel
theorem dX0_init_6 : decode cX0_init 6 = .ok (.newarray .int, 2) := by decide +kernel
theorem dX0_init_8 : decode cX0_init 8 = .ok (.putfield 9, 3) := by decide +kernel
theorem dX0_init_11 : decode cX0_init 11 = .ok (.aload_n 0, 1) := by decide +kernel
theorem dX0_init_12 : decode cX0_init 12 = .ok (.iconst 5, 1) := by decide +kernel
theorem dX0_init_13 : decode cX0_init 13 = .ok (.newarray .int, 2) := by decide +kernel
theorem dX0_init_15 : decode cX0_init 15 = .ok (.putfield 15, 3) := by decide +kernel
theorem dX0_init_18 : decode cX0_init 18 = .ok (.aload_n 0, 1) := by decide +kernel
theorem dX0_init_19 : decode cX0_init 19 = .ok (.iconst 5, 1) := by decide +kernel
theorem dX0_init_20 : decode cX0_init 20 = .ok (.newarray .int, 2) := by decide +kernel
theorem dX0_init_22 : decode cX0_init 22 = .ok (.putfield 18, 3) := by decide +kernel
theorem dX0_init_25 : decode cX0_init 25 = .ok (.aload_n 0, 1) := by decide +kernel
theorem dX0_init_26 : decode cX0_init 26 = .ok (.iconst 0, 1) := by decide +kernel
theorem dX0_init_27 : decode cX0_init 27 = .ok (.putfield 21, 3) := by decide +kernel
theorem dX0_init_30 : decode cX0_init 30 = .ok (.return_, 1) := by decide +kernel
theorem dX0_add_0 : decode cX0_add 0 = .ok (.aload_n 0, 1) := by decide +kernel
theorem dX0_add_1 : decode cX0_add 1 = .ok (.getfield 21, 3) := by decide +kernel
theorem dX0_add_4 : decode cX0_add 4 = .ok (.ifCond .lt 11, 3) := by decide +kernel
theorem dX0_add_7 : decode cX0_add 7 = .ok (.aload_n 0, 1) := by decide +kernel
theorem dX0_add_8 : decode cX0_add 8 = .ok (.getfield 21, 3) := by decide +kernel
theorem dX0_add_11 : decode cX0_add 11 = .ok (.iconst 5, 1) := by decide +kernel
theorem dX0_add_12 : decode cX0_add 12 = .ok (.if_icmp .lt 4, 3) := by decide +kernel
theorem dX0_add_15 : decode cX0_add 15 = .ok (.return_, 1) := by decide +kernel
theorem dX0_add_16 : decode cX0_add 16 = .ok (.aload_n 0, 1) := by decide +kernel
theorem dX0_add_17 : decode cX0_add 17 = .ok (.getfield 9, 3) := by decide +kernel
theorem dX0_add_20 : decode cX0_add 20 = .ok (.aload_n 0, 1) := by decide +kernel
theorem dX0_add_21 : decode cX0_add 21 = .ok (.getfield 21, 3) := by decide +kernel
theorem dX0_add_24 : decode cX0_add 24 = .ok (.iload_n 1, 1) := by decide +kernel
theorem dX0_add_25 : decode cX0_add 25 = .ok (.iastore, 1) := by decide +kernel
theorem dX0_add_26 : decode cX0_add 26 = .ok (.aload_n 0, 1) := by decide +kernel
theorem dX0_add_27 : decode cX0_add 27 = .ok (.getfield 15, 3) := by decide +kernel
theorem dX0_add_30 : decode cX0_add 30 = .ok (.aload_n 0, 1) := by decide +kernel
theorem dX0_add_31 : decode cX0_add 31 = .ok (.getfield 21, 3) := by decide +kernel
theorem dX0_add_34 : decode cX0_add 34 = .ok (.iload_n 2, 1) := by decide +kernel
theorem dX0_add_35 : decode cX0_add 35 = .ok (.iastore, 1) := by decide +kernel
theorem dX0_add_36 : decode cX0_add 36 = .ok (.aload_n 0, 1) := by decide +kernel
theorem dX0_add_37 : decode cX0_add 37 = .ok (.getfield 18, 3) := by decide +kernel
theorem dX0_add_40 : decode cX0_add 40 = .ok (.aload_n 0, 1) := by decide +kernel
theorem dX0_add_41 : decode cX0_add 41 = .ok (.getfield 21, 3) := by decide +kernel
theorem dX0_add_44 : decode cX0_add 44 = .ok (.iload_n 3, 1) := by decide +kernel
theorem dX0_add_45 : decode cX0_add 45 = .ok (.iastore, 1) := by decide +kernel
theorem dX0_add_46 : decode cX0_add 46 = .ok (.aload_n 0, 1) := by decide +kernel
theorem dX0_add_47 : decode cX0_add 47 = .ok (.dup, 1) := by decide +kernel
theorem dX0_add_48 : decode cX0_add 48 = .ok (.getfield 21, 3) := by decide +kernel
theorem dX0_add_51 : decode cX0_add 51 = .ok (.iconst 1, 1) := by decide +kernel
theorem dX0_add_52 : decode cX0_add 52 = .ok (.iadd, 1) := by decide +kernel
theorem dX0_add_53 : decode cX0_add 53 = .ok (.putfield 21, 3) := by decide +kernel
theorem dX0_add_56 : decode cX0_add 56 = .ok (.return_, 1) := by decide +kernel
theorem dX0_all_0 : decode cX0_all 0 = .ok (.iconst 1, 1) := by decide +kernel
theorem dX0_all_1 : decode cX0_all 1 = .ok (.aload_n 0, 1) := by decide +kernel
theorem dX0_all_2 : decode cX0_all 2 = .ok (.getfield 21, 3) := by decide +kernel
theorem dX0_all_5 : decode cX0_all 5 = .ok (.ishl, 1) := by decide +kernel
theorem dX0_all_6 : decode cX0_all 6 = .ok (.iconst 1, 1) := by decide +kernel
theorem dX0_all_7 : decode cX0_all 7 = .ok (.isub, 1) := by decide +kernel
theorem dX0_all_8 : decode cX0_all 8 = .ok (.ireturn, 1) := by decide +kernel
theorem dX0_last_0 : decode cX0_last 0 = .ok (.aload_n 0, 1) := by decide +kernel
theorem dX0_last_1 : decode cX0_last 1 = .ok (.getfield 21, 3) := by decide +kernel
theorem dX0_last_4 : decode cX0_last 4 = .ok (.ifCond .le 14, 3) := by decide +kernel
theorem dX0_last_7 : decode cX0_last 7 = .ok (.iconst 1, 1) := by decide +kernel
theorem dX0_last_8 : decode cX0_last 8 = .ok (.aload_n 0, 1) := by decide +kernel
theorem dX0_last_9 : decode cX0_last 9 = .ok (.getfield 21, 3) := by decide +kernel
theorem dX0_last_12 : decode cX0_last 12 = .ok (.iconst 1, 1) := by decide +kernel
theorem dX0_last_13 : decode cX0_last 13 = .ok (.isub, 1) := by decide +kernel
theorem dX0_last_14 : decode cX0_last 14 = .ok (.ishl, 1) := by decide +kernel
theorem dX0_last_15 : decode cX0_last 15 = .ok (.goto 4, 3) := by decide +kernel
theorem dX0_last_18 : decode cX0_last 18 = .ok (.iconst 0, 1) := by decide +kernel
theorem dX0_last_19 : decode cX0_last 19 = .ok (.ireturn, 1) := by decide +kernel
theorem dX0_forbids_0 : decode cX0_forbids 0 = .ok (.iload_n 1, 1) := by decide +kernel
theorem dX0_forbids_1 : decode cX0_forbids 1 = .ok (.ifCond .lt 26, 3) := by decide +kernel
theorem dX0_forbids_4 : decode cX0_forbids 4 = .ok (.iload_n 1, 1) := by decide +kernel
theorem dX0_forbids_5 : decode cX0_forbids 5 = .ok (.aload_n 0, 1) := by decide +kernel
theorem dX0_forbids_6 : decode cX0_forbids 6 = .ok (.getfield 21, 3) := by decide +kernel
theorem dX0_forbids_9 : decode cX0_forbids 9 = .ok (.if_icmp .ge 18, 3) := by decide +kernel
theorem dX0_forbids_12 : decode cX0_forbids 12 = .ok (.iload_n 1, 1) := by decide +kernel
theorem dX0_forbids_13 : decode cX0_forbids 13 = .ok (.iconst 5, 1) := by decide +kernel
theorem dX0_forbids_14 : decode cX0_forbids 14 = .ok (.if_icmp .ge 13, 3) := by decide +kernel
theorem dX0_forbids_17 : decode cX0_forbids 17 = .ok (.aload_n 0, 1) := by decide +kernel
theorem dX0_forbids_18 : decode cX0_forbids 18 = .ok (.getfield 9, 3) := by decide +kernel
theorem dX0_forbids_21 : decode cX0_forbids 21 = .ok (.iload_n 1, 1) := by decide +kernel
theorem dX0_forbids_22 : decode cX0_forbids 22 = .ok (.iaload, 1) := by decide +kernel
theorem dX0_forbids_23 : decode cX0_forbids 23 = .ok (.iload_n 2, 1) := by decide +kernel
theorem dX0_forbids_24 : decode cX0_forbids 24 = .ok (.if_icmp .eq 5, 3) := by decide +kernel
theorem dX0_forbids_27 : decode cX0_forbids 27 = .ok (.iconst 0, 1) := by decide +kernel
theorem dX0_forbids_28 : decode cX0_forbids 28 = .ok (.ireturn, 1) := by decide +kernel
theorem dX0_forbids_29 : decode cX0_forbids 29 = .ok (.aload_n 0, 1) := by decide +kernel
theorem dX0_forbids_30 : decode cX0_forbids 30 = .ok (.getfield 15, 3) := by decide +kernel
theorem dX0_forbids_33 : decode cX0_forbids 33 = .ok (.iload_n 1, 1) := by decide +kernel
theorem dX0_forbids_34 : decode cX0_forbids 34 = .ok (.iaload, 1) := by decide +kernel
theorem dX0_forbids_35 : decode cX0_forbids 35 = .ok (.iconst 3, 1) := by decide +kernel
theorem dX0_forbids_36 : decode cX0_forbids 36 = .ok (.if_icmp .ne 22, 3) := by decide +kernel
theorem dX0_forbids_39 : decode cX0_forbids 39 = .ok (.iload 6, 2) := by decide +kernel
theorem dX0_forbids_41 : decode cX0_forbids 41 = .ok (.aload_n 0, 1) := by decide +kernel
theorem dX0_forbids_42 : decode cX0_forbids 42 = .ok (.getfield 18, 3) := by decide +kernel
theorem dX0_forbids_45 : decode cX0_forbids 45 = .ok (.iload_n 1, 1) := by decide +kernel
theorem dX0_forbids_46 : decode cX0_forbids 46 = .ok (.iaload, 1) := by decide +kernel
theorem dX0_forbids_47 : decode cX0_forbids 47 = .ok (.iconst 5, 1) := by decide +kernel
theorem dX0_forbids_48 : decode cX0_forbids 48 = .ok (.irem, 1) := by decide +kernel
theorem dX0_forbids_49 : decode cX0_forbids 49 = .ok (.if_icmp .ge 7, 3) := by decide +kernel
theorem dX0_forbids_52 : decode cX0_forbids 52 = .ok (.iconst 1, 1) := by decide +kernel
theorem dX0_forbids_53 : decode cX0_forbids 53 = .ok (.goto 4, 3) := by decide +kernel
theorem dX0_forbids_56 : decode cX0_forbids 56 = .ok (.iconst 0, 1) := by decide +kernel
theorem dX0_forbids_57 : decode cX0_forbids 57 = .ok (.ireturn, 1) := by decide +kernel
theorem dX0_forbids_58 : decode cX0_forbids 58 = .ok (.aload_n 0, 1) := by decide +kernel
theorem dX0_forbids_59 : decode cX0_forbids 59 = .ok (.getfield 15, 3) := by decide +kernel
theorem dX0_forbids_62 : decode cX0_forbids 62 = .ok (.iload_n 1, 1) := by decide +kernel
theorem dX0_forbids_63 : decode cX0_forbids 63 = .ok (.iaload, 1) := by decide +kernel
theorem dX0_forbids_64 : decode cX0_forbids 64 = .ok (.aload_n 0, 1) := by decide +kernel
theorem dX0_forbids_65 : decode cX0_forbids 65 = .ok (.getfield 18, 3) := by decide +kernel
theorem dX0_forbids_68 : decode cX0_forbids 68 = .ok (.iload_n 1, 1) := by decide +kernel
theorem dX0_forbids_69 : decode cX0_forbids 69 = .ok (.iaload, 1) := by decide +kernel
theorem dX0_forbids_70 : decode cX0_forbids 70 = .ok (.iload_n 3, 1) := by decide +kernel
theorem dX0_forbids_71 : decode cX0_forbids 71 = .ok (.iload 4, 2) := by decide +kernel
theorem dX0_forbids_73 : decode cX0_forbids 73 = .ok (.iload 5, 2) := by decide +kernel
theorem dX0_forbids_75 : decode cX0_forbids 75 = .ok (.invokestatic 25, 3) := by decide +kernel
theorem dX0_forbids_78 : decode cX0_forbids 78 = .ok (.ireturn, 1) := by decide +kernel
theorem dX0_forbidsAlone_0 : decode cX0_forbidsAlone 0 = .ok (.iload_n 0, 1) := by decide +kernel
theorem dX0_forbidsAlone_1 : decode cX0_forbidsAlone 1 = .ok (.tableswitch 65 0 2 #[27, 40, 51], 27) := by decide +kernel
theorem dX0_forbidsAlone_28 : decode cX0_forbidsAlone 28 = .ok (.iload_n 2, 1) := by decide +kernel
theorem dX0_forbidsAlone_29 : decode cX0_forbidsAlone 29 = .ok (.iload_n 1, 1) := by decide +kernel
theorem dX0_forbidsAlone_30 : decode cX0_forbidsAlone 30 = .ok (.iconst 4, 1) := by decide +kernel
theorem dX0_forbidsAlone_31 : decode cX0_forbidsAlone 31 = .ok (.irem, 1) := by decide +kernel
theorem dX0_forbidsAlone_32 : decode cX0_forbidsAlone 32 = .ok (.if_icmp .ne 7, 3) := by decide +kernel
theorem dX0_forbidsAlone_35 : decode cX0_forbidsAlone 35 = .ok (.iconst 1, 1) := by decide +kernel
theorem dX0_forbidsAlone_36 : decode cX0_forbidsAlone 36 = .ok (.goto 4, 3) := by decide +kernel
theorem dX0_forbidsAlone_39 : decode cX0_forbidsAlone 39 = .ok (.iconst 0, 1) := by decide +kernel
theorem dX0_forbidsAlone_40 : decode cX0_forbidsAlone 40 = .ok (.ireturn, 1) := by decide +kernel
theorem dX0_forbidsAlone_41 : decode cX0_forbidsAlone 41 = .ok (.iload_n 3, 1) := by decide +kernel
theorem dX0_forbidsAlone_42 : decode cX0_forbidsAlone 42 = .ok (.iload_n 1, 1) := by decide +kernel
theorem dX0_forbidsAlone_43 : decode cX0_forbidsAlone 43 = .ok (.if_icmp .ge 7, 3) := by decide +kernel
theorem dX0_forbidsAlone_46 : decode cX0_forbidsAlone 46 = .ok (.iconst 1, 1) := by decide +kernel
theorem dX0_forbidsAlone_47 : decode cX0_forbidsAlone 47 = .ok (.goto 4, 3) := by decide +kernel
theorem dX0_forbidsAlone_50 : decode cX0_forbidsAlone 50 = .ok (.iconst 0, 1) := by decide +kernel
theorem dX0_forbidsAlone_51 : decode cX0_forbidsAlone 51 = .ok (.ireturn, 1) := by decide +kernel
theorem dX0_forbidsAlone_52 : decode cX0_forbidsAlone 52 = .ok (.iload 4, 2) := by decide +kernel
theorem dX0_forbidsAlone_54 : decode cX0_forbidsAlone 54 = .ok (.iload_n 1, 1) := by decide +kernel
theorem dX0_forbidsAlone_55 : decode cX0_forbidsAlone 55 = .ok (.iconst 2, 1) := by decide +kernel
theorem dX0_forbidsAlone_56 : decode cX0_forbidsAlone 56 = .ok (.irem, 1) := by decide +kernel
theorem dX0_forbidsAlone_57 : decode cX0_forbidsAlone 57 = .ok (.if_icmp .eq 7, 3) := by decide +kernel
theorem dX0_forbidsAlone_60 : decode cX0_forbidsAlone 60 = .ok (.iconst 1, 1) := by decide +kernel
theorem dX0_forbidsAlone_61 : decode cX0_forbidsAlone 61 = .ok (.goto 4, 3) := by decide +kernel
theorem dX0_forbidsAlone_64 : decode cX0_forbidsAlone 64 = .ok (.iconst 0, 1) := by decide +kernel
theorem dX0_forbidsAlone_65 : decode cX0_forbidsAlone 65 = .ok (.ireturn, 1) := by decide +kernel
theorem dX0_forbidsAlone_66 : decode cX0_forbidsAlone 66 = .ok (.iconst 0, 1) := by decide +kernel
theorem dX0_forbidsAlone_67 : decode cX0_forbidsAlone 67 = .ok (.ireturn, 1) := by decide +kernel
theorem dX1_init_0 : decode cX1_init 0 = .ok (.aload_n 0, 1) := by decide +kernel
theorem dX1_init_1 : decode cX1_init 1 = .ok (.invokespecial 3, 3) := by decide +kernel
theorem dX1_init_4 : decode cX1_init 4 = .ok (.aload_n 0, 1) := by decide +kernel
theorem dX1_init_5 : decode cX1_init 5 = .ok (.bipush 6, 2) := by decide +kernel
theorem dX1_init_7 : decode cX1_init 7 = .ok (.newarray .int, 2) := by decide +kernel
theorem dX1_init_9 : decode cX1_init 9 = .ok (.putfield 9, 3) := by decide +kernel
theorem dX1_init_12 : decode cX1_init 12 = .ok (.aload_n 0, 1) := by decide +kernel
theorem dX1_init_13 : decode cX1_init 13 = .ok (.bipush 6, 2) := by decide +kernel
theorem dX1_init_15 : decode cX1_init 15 = .ok (.newarray .int, 2) := by decide +kernel
theorem dX1_init_17 : decode cX1_init 17 = .ok (.putfield 15, 3) := by decide +kernel
theorem dX1_init_20 : decode cX1_init 20 = .ok (.aload_n 0, 1) := by decide +kernel
theorem dX1_init_21 : decode cX1_init 21 = .ok (.bipush 6, 2) := by decide +kernel
theorem dX1_init_23 : decode cX1_init 23 = .ok (.newarray .int, 2) := by decide +kernel
theorem dX1_init_25 : decode cX1_init 25 = .ok (.putfield 18, 3) := by decide +kernel
theorem dX1_init_28 : decode cX1_init 28 = .ok (.aload_n 0, 1) := by decide +kernel
theorem dX1_init_29 : decode cX1_init 29 = .ok (.bipush 6, 2) := by decide +kernel
theorem dX1_init_31 : decode cX1_init 31 = .ok (.newarray .int, 2) := by decide +kernel
theorem dX1_init_33 : decode cX1_init 33 = .ok (.putfield 21, 3) := by decide +kernel
theorem dX1_init_36 : decode cX1_init 36 = .ok (.aload_n 0, 1) := by decide +kernel
theorem dX1_init_37 : decode cX1_init 37 = .ok (.bipush 6, 2) := by decide +kernel
theorem dX1_init_39 : decode cX1_init 39 = .ok (.newarray .int, 2) := by decide +kernel
theorem dX1_init_41 : decode cX1_init 41 = .ok (.putfield 24, 3) := by decide +kernel
theorem dX1_init_44 : decode cX1_init 44 = .ok (.aload_n 0, 1) := by decide +kernel
theorem dX1_init_45 : decode cX1_init 45 = .ok (.iconst 0, 1) := by decide +kernel
theorem dX1_init_46 : decode cX1_init 46 = .ok (.putfield 27, 3) := by decide +kernel
theorem dX1_init_49 : decode cX1_init 49 = .ok (.return_, 1) := by decide +kernel
theorem dX1_add_0 : decode cX1_add 0 = .ok (.aload_n 0, 1) := by decide +kernel
theorem dX1_add_1 : decode cX1_add 1 = .ok (.getfield 27, 3) := by decide +kernel
theorem dX1_add_4 : decode cX1_add 4 = .ok (.ifCond .lt 12, 3) := by decide +kernel
theorem dX1_add_7 : decode cX1_add 7 = .ok (.aload_n 0, 1) := by decide +kernel
theorem dX1_add_8 : decode cX1_add 8 = .ok (.getfield 27, 3) := by decide +kernel
theorem dX1_add_11 : decode cX1_add 11 = .ok (.bipush 6, 2) := by decide +kernel
theorem dX1_add_13 : decode cX1_add 13 = .ok (.if_icmp .lt 5, 3) := by decide +kernel
theorem dX1_add_16 : decode cX1_add 16 = .ok (.iconst 0, 1) := by decide +kernel
theorem dX1_add_17 : decode cX1_add 17 = .ok (.ireturn, 1) := by decide +kernel
theorem dX1_add_18 : decode cX1_add 18 = .ok (.aload_n 0, 1) := by decide +kernel
theorem dX1_add_19 : decode cX1_add 19 = .ok (.getfield 9, 3) := by decide +kernel
theorem dX1_add_22 : decode cX1_add 22 = .ok (.aload_n 0, 1) := by decide +kernel
theorem dX1_add_23 : decode cX1_add 23 = .ok (.getfield 27, 3) := by decide +kernel
theorem dX1_add_26 : decode cX1_add 26 = .ok (.iload_n 1, 1) := by decide +kernel
theorem dX1_add_27 : decode cX1_add 27 = .ok (.iastore, 1) := by decide +kernel
theorem dX1_add_28 : decode cX1_add 28 = .ok (.aload_n 0, 1) := by decide +kernel
theorem dX1_add_29 : decode cX1_add 29 = .ok (.getfield 15, 3) := by decide +kernel
theorem dX1_add_32 : decode cX1_add 32 = .ok (.aload_n 0, 1) := by decide +kernel
theorem dX1_add_33 : decode cX1_add 33 = .ok (.getfield 27, 3) := by decide +kernel
theorem dX1_add_36 : decode cX1_add 36 = .ok (.iload_n 2, 1) := by decide +kernel
theorem dX1_add_37 : decode cX1_add 37 = .ok (.iastore, 1) := by decide +kernel
theorem dX1_add_38 : decode cX1_add 38 = .ok (.aload_n 0, 1) := by decide +kernel
theorem dX1_add_39 : decode cX1_add 39 = .ok (.getfield 18, 3) := by decide +kernel
theorem dX1_add_42 : decode cX1_add 42 = .ok (.aload_n 0, 1) := by decide +kernel
theorem dX1_add_43 : decode cX1_add 43 = .ok (.getfield 27, 3) := by decide +kernel
theorem dX1_add_46 : decode cX1_add 46 = .ok (.iload_n 3, 1) := by decide +kernel
theorem dX1_add_47 : decode cX1_add 47 = .ok (.iastore, 1) := by decide +kernel
theorem dX1_add_48 : decode cX1_add 48 = .ok (.aload_n 0, 1) := by decide +kernel
theorem dX1_add_49 : decode cX1_add 49 = .ok (.getfield 21, 3) := by decide +kernel
theorem dX1_add_52 : decode cX1_add 52 = .ok (.aload_n 0, 1) := by decide +kernel
theorem dX1_add_53 : decode cX1_add 53 = .ok (.getfield 27, 3) := by decide +kernel
theorem dX1_add_56 : decode cX1_add 56 = .ok (.iload 4, 2) := by decide +kernel
theorem dX1_add_58 : decode cX1_add 58 = .ok (.iastore, 1) := by decide +kernel
theorem dX1_add_59 : decode cX1_add 59 = .ok (.aload_n 0, 1) := by decide +kernel
theorem dX1_add_60 : decode cX1_add 60 = .ok (.getfield 24, 3) := by decide +kernel
theorem dX1_add_63 : decode cX1_add 63 = .ok (.aload_n 0, 1) := by decide +kernel
theorem dX1_add_64 : decode cX1_add 64 = .ok (.getfield 27, 3) := by decide +kernel
theorem dX1_add_67 : decode cX1_add 67 = .ok (.iload 5, 2) := by decide +kernel
theorem dX1_add_69 : decode cX1_add 69 = .ok (.iastore, 1) := by decide +kernel
theorem dX1_add_70 : decode cX1_add 70 = .ok (.aload_n 0, 1) := by decide +kernel
theorem dX1_add_71 : decode cX1_add 71 = .ok (.dup, 1) := by decide +kernel
theorem dX1_add_72 : decode cX1_add 72 = .ok (.getfield 27, 3) := by decide +kernel
theorem dX1_add_75 : decode cX1_add 75 = .ok (.iconst 1, 1) := by decide +kernel
theorem dX1_add_76 : decode cX1_add 76 = .ok (.iadd, 1) := by decide +kernel
theorem dX1_add_77 : decode cX1_add 77 = .ok (.putfield 27, 3) := by decide +kernel
theorem dX1_add_80 : decode cX1_add 80 = .ok (.iconst 1, 1) := by decide +kernel
theorem dX1_add_81 : decode cX1_add 81 = .ok (.ireturn, 1) := by decide +kernel
theorem dX1_agreeWith_0 : decode cX1_agreeWith 0 = .ok (.iconst 0, 1) := by decide +kernel
theorem dX1_agreeWith_1 : decode cX1_agreeWith 1 = .ok (.istore 4, 2) := by decide +kernel
theorem dX1_agreeWith_3 : decode cX1_agreeWith 3 = .ok (.iload 4, 2) := by decide +kernel
theorem dX1_agreeWith_5 : decode cX1_agreeWith 5 = .ok (.aload_n 0, 1) := by decide +kernel
theorem dX1_agreeWith_6 : decode cX1_agreeWith 6 = .ok (.getfield 27, 3) := by decide +kernel
theorem dX1_agreeWith_9 : decode cX1_agreeWith 9 = .ok (.if_icmp .ge 78, 3) := by decide +kernel
theorem dX1_agreeWith_12 : decode cX1_agreeWith 12 = .ok (.iload 4, 2) := by decide +kernel
theorem dX1_agreeWith_14 : decode cX1_agreeWith 14 = .ok (.bipush 6, 2) := by decide +kernel
theorem dX1_agreeWith_16 : decode cX1_agreeWith 16 = .ok (.if_icmp .ge 71, 3) := by decide +kernel
theorem dX1_agreeWith_19 : decode cX1_agreeWith 19 = .ok (.iload_n 2, 1) := by decide +kernel
theorem dX1_agreeWith_20 : decode cX1_agreeWith 20 = .ok (.iload_n 3, 1) := by decide +kernel
theorem dX1_agreeWith_21 : decode cX1_agreeWith 21 = .ok (.aload_n 0, 1) := by decide +kernel
theorem dX1_agreeWith_22 : decode cX1_agreeWith 22 = .ok (.getfield 15, 3) := by decide +kernel
theorem dX1_agreeWith_25 : decode cX1_agreeWith 25 = .ok (.iload 4, 2) := by decide +kernel
theorem dX1_agreeWith_27 : decode cX1_agreeWith 27 = .ok (.iaload, 1) := by decide +kernel
theorem dX1_agreeWith_28 : decode cX1_agreeWith 28 = .ok (.aload_n 0, 1) := by decide +kernel
theorem dX1_agreeWith_29 : decode cX1_agreeWith 29 = .ok (.getfield 18, 3) := by decide +kernel
theorem dX1_agreeWith_32 : decode cX1_agreeWith 32 = .ok (.iload 4, 2) := by decide +kernel
theorem dX1_agreeWith_34 : decode cX1_agreeWith 34 = .ok (.iaload, 1) := by decide +kernel
theorem dX1_agreeWith_35 : decode cX1_agreeWith 35 = .ok (.aload_n 0, 1) := by decide +kernel
theorem dX1_agreeWith_36 : decode cX1_agreeWith 36 = .ok (.getfield 21, 3) := by decide +kernel
theorem dX1_agreeWith_39 : decode cX1_agreeWith 39 = .ok (.iload 4, 2) := by decide +kernel
theorem dX1_agreeWith_41 : decode cX1_agreeWith 41 = .ok (.iaload, 1) := by decide +kernel
theorem dX1_agreeWith_42 : decode cX1_agreeWith 42 = .ok (.invokestatic 31, 3) := by decide +kernel
theorem dX1_agreeWith_45 : decode cX1_agreeWith 45 = .ok (.istore 5, 2) := by decide +kernel
theorem dX1_agreeWith_47 : decode cX1_agreeWith 47 = .ok (.aload_n 0, 1) := by decide +kernel
theorem dX1_agreeWith_48 : decode cX1_agreeWith 48 = .ok (.getfield 9, 3) := by decide +kernel
theorem dX1_agreeWith_51 : decode cX1_agreeWith 51 = .ok (.iload 4, 2) := by decide +kernel
theorem dX1_agreeWith_53 : decode cX1_agreeWith 53 = .ok (.iaload, 1) := by decide +kernel
theorem dX1_agreeWith_54 : decode cX1_agreeWith 54 = .ok (.iload_n 1, 1) := by decide +kernel
theorem dX1_agreeWith_55 : decode cX1_agreeWith 55 = .ok (.if_icmp .ne 26, 3) := by decide +kernel
theorem dX1_agreeWith_58 : decode cX1_agreeWith 58 = .ok (.iload 5, 2) := by decide +kernel
theorem dX1_agreeWith_60 : decode cX1_agreeWith 60 = .ok (.aload_n 0, 1) := by decide +kernel
theorem dX1_agreeWith_61 : decode cX1_agreeWith 61 = .ok (.getfield 24, 3) := by decide +kernel
theorem dX1_agreeWith_64 : decode cX1_agreeWith 64 = .ok (.iload 4, 2) := by decide +kernel
theorem dX1_agreeWith_66 : decode cX1_agreeWith 66 = .ok (.iaload, 1) := by decide +kernel
theorem dX1_agreeWith_67 : decode cX1_agreeWith 67 = .ok (.iconst 1, 1) := by decide +kernel
theorem dX1_agreeWith_68 : decode cX1_agreeWith 68 = .ok (.if_icmp .ne 7, 3) := by decide +kernel
theorem dX1_agreeWith_71 : decode cX1_agreeWith 71 = .ok (.iconst 1, 1) := by decide +kernel
theorem dX1_agreeWith_72 : decode cX1_agreeWith 72 = .ok (.goto 4, 3) := by decide +kernel
theorem dX1_agreeWith_75 : decode cX1_agreeWith 75 = .ok (.iconst 0, 1) := by decide +kernel
theorem dX1_agreeWith_76 : decode cX1_agreeWith 76 = .ok (.if_icmp .eq 5, 3) := by decide +kernel
theorem dX1_agreeWith_79 : decode cX1_agreeWith 79 = .ok (.iconst 0, 1) := by decide +kernel
theorem dX1_agreeWith_80 : decode cX1_agreeWith 80 = .ok (.ireturn, 1) := by decide +kernel
theorem dX1_agreeWith_81 : decode cX1_agreeWith 81 = .ok (.iinc 4 1, 3) := by decide +kernel
theorem dX1_agreeWith_84 : decode cX1_agreeWith 84 = .ok (.goto (-81), 3) := by decide +kernel
theorem dX1_agreeWith_87 : decode cX1_agreeWith 87 = .ok (.iconst 1, 1) := by decide +kernel
theorem dX1_agreeWith_88 : decode cX1_agreeWith 88 = .ok (.ireturn, 1) := by decide +kernel
theorem dX2_init_0 : decode cX2_init 0 = .ok (.aload_n 0, 1) := by decide +kernel
theorem dX2_init_1 : decode cX2_init 1 = .ok (.invokespecial 3, 3) := by decide +kernel
theorem dX2_init_4 : decode cX2_init 4 = .ok (.aload_n 0, 1) := by decide +kernel
theorem dX2_init_5 : decode cX2_init 5 = .ok (.iconst 5, 1) := by decide +kernel
theorem dX2_init_6 : decode cX2_init 6 = .ok (.newarray .int, 2) := by decide +kernel
theorem dX2_init_8 : decode cX2_init 8 = .ok (.putfield 9, 3) := by decide +kernel
theorem dX2_init_11 : decode cX2_init 11 = .ok (.aload_n 0, 1) := by decide +kernel
theorem dX2_init_12 : decode cX2_init 12 = .ok (.iconst 5, 1) := by decide +kernel
theorem dX2_init_13 : decode cX2_init 13 = .ok (.newarray .int, 2) := by decide +kernel
theorem dX2_init_15 : decode cX2_init 15 = .ok (.putfield 15, 3) := by decide +kernel
theorem dX2_init_18 : decode cX2_init 18 = .ok (.aload_n 0, 1) := by decide +kernel
theorem dX2_init_19 : decode cX2_init 19 = .ok (.iconst 5, 1) := by decide +kernel
theorem dX2_init_20 : decode cX2_init 20 = .ok (.newarray .int, 2) := by decide +kernel
theorem dX2_init_22 : decode cX2_init 22 = .ok (.putfield 18, 3) := by decide +kernel
theorem dX2_init_25 : decode cX2_init 25 = .ok (.aload_n 0, 1) := by decide +kernel
theorem dX2_init_26 : decode cX2_init 26 = .ok (.iconst 0, 1) := by decide +kernel
theorem dX2_init_27 : decode cX2_init 27 = .ok (.putfield 21, 3) := by decide +kernel
theorem dX2_init_30 : decode cX2_init 30 = .ok (.aload_n 0, 1) := by decide +kernel
theorem dX2_init_31 : decode cX2_init 31 = .ok (.iconst 0, 1) := by decide +kernel
theorem dX2_init_32 : decode cX2_init 32 = .ok (.putfield 25, 3) := by decide +kernel
theorem dX2_init_35 : decode cX2_init 35 = .ok (.return_, 1) := by decide +kernel
theorem dX3_init_0 : decode cX3_init 0 = .ok (.aload_n 0, 1) := by decide +kernel
theorem dX3_init_1 : decode cX3_init 1 = .ok (.invokespecial 3, 3) := by decide +kernel
theorem dX3_init_4 : decode cX3_init 4 = .ok (.aload_n 0, 1) := by decide +kernel
theorem dX3_init_5 : decode cX3_init 5 = .ok (.bipush 48, 2) := by decide +kernel
theorem dX3_init_7 : decode cX3_init 7 = .ok (.newarray .int, 2) := by decide +kernel
theorem dX3_init_9 : decode cX3_init 9 = .ok (.putfield 9, 3) := by decide +kernel
theorem dX3_init_12 : decode cX3_init 12 = .ok (.aload_n 0, 1) := by decide +kernel
theorem dX3_init_13 : decode cX3_init 13 = .ok (.iconst 0, 1) := by decide +kernel
theorem dX3_init_14 : decode cX3_init 14 = .ok (.putfield 15, 3) := by decide +kernel
theorem dX3_init_17 : decode cX3_init 17 = .ok (.return_, 1) := by decide +kernel
theorem dX3_put_0 : decode cX3_put 0 = .ok (.aload_n 0, 1) := by decide +kernel
theorem dX3_put_1 : decode cX3_put 1 = .ok (.getfield 15, 3) := by decide +kernel
theorem dX3_put_4 : decode cX3_put 4 = .ok (.ifCond .lt 15, 3) := by decide +kernel
theorem dX3_put_7 : decode cX3_put 7 = .ok (.aload_n 0, 1) := by decide +kernel
theorem dX3_put_8 : decode cX3_put 8 = .ok (.getfield 15, 3) := by decide +kernel
theorem dX3_put_11 : decode cX3_put 11 = .ok (.aload_n 0, 1) := by decide +kernel
theorem dX3_put_12 : decode cX3_put 12 = .ok (.getfield 9, 3) := by decide +kernel
theorem dX3_put_15 : decode cX3_put 15 = .ok (.arraylength, 1) := by decide +kernel
theorem dX3_put_16 : decode cX3_put 16 = .ok (.if_icmp .lt 5, 3) := by decide +kernel
theorem dX3_put_19 : decode cX3_put 19 = .ok (.iconst 0, 1) := by decide +kernel
theorem dX3_put_20 : decode cX3_put 20 = .ok (.ireturn, 1) := by decide +kernel
theorem dX3_put_21 : decode cX3_put 21 = .ok (.aload_n 0, 1) := by decide +kernel
theorem dX3_put_22 : decode cX3_put 22 = .ok (.getfield 9, 3) := by decide +kernel
theorem dX3_put_25 : decode cX3_put 25 = .ok (.aload_n 0, 1) := by decide +kernel
theorem dX3_put_26 : decode cX3_put 26 = .ok (.getfield 15, 3) := by decide +kernel
theorem dX3_put_29 : decode cX3_put 29 = .ok (.iload_n 1, 1) := by decide +kernel
theorem dX3_put_30 : decode cX3_put 30 = .ok (.iastore, 1) := by decide +kernel
theorem dX3_put_31 : decode cX3_put 31 = .ok (.aload_n 0, 1) := by decide +kernel
theorem dX3_put_32 : decode cX3_put 32 = .ok (.dup, 1) := by decide +kernel
theorem dX3_put_33 : decode cX3_put 33 = .ok (.getfield 15, 3) := by decide +kernel
theorem dX3_put_36 : decode cX3_put 36 = .ok (.iconst 1, 1) := by decide +kernel
theorem dX3_put_37 : decode cX3_put 37 = .ok (.iadd, 1) := by decide +kernel
theorem dX3_put_38 : decode cX3_put 38 = .ok (.putfield 15, 3) := by decide +kernel
theorem dX3_put_41 : decode cX3_put 41 = .ok (.iconst 1, 1) := by decide +kernel
theorem dX3_put_42 : decode cX3_put 42 = .ok (.ireturn, 1) := by decide +kernel
theorem dX3_letter_0 : decode cX3_letter 0 = .ok (.iload_n 1, 1) := by decide +kernel
theorem dX3_letter_1 : decode cX3_letter 1 = .ok (.ifCond .lt 29, 3) := by decide +kernel
theorem dX3_letter_4 : decode cX3_letter 4 = .ok (.iload_n 1, 1) := by decide +kernel
theorem dX3_letter_5 : decode cX3_letter 5 = .ok (.aload_n 0, 1) := by decide +kernel
theorem dX3_letter_6 : decode cX3_letter 6 = .ok (.getfield 15, 3) := by decide +kernel
theorem dX3_letter_9 : decode cX3_letter 9 = .ok (.if_icmp .ge 21, 3) := by decide +kernel
theorem dX3_letter_12 : decode cX3_letter 12 = .ok (.iload_n 1, 1) := by decide +kernel
theorem dX3_letter_13 : decode cX3_letter 13 = .ok (.aload_n 0, 1) := by decide +kernel
theorem dX3_letter_14 : decode cX3_letter 14 = .ok (.getfield 9, 3) := by decide +kernel
theorem dX3_letter_17 : decode cX3_letter 17 = .ok (.arraylength, 1) := by decide +kernel
theorem dX3_letter_18 : decode cX3_letter 18 = .ok (.if_icmp .ge 12, 3) := by decide +kernel
theorem dX3_letter_21 : decode cX3_letter 21 = .ok (.aload_n 0, 1) := by decide +kernel
theorem dX3_letter_22 : decode cX3_letter 22 = .ok (.getfield 9, 3) := by decide +kernel
theorem dX3_letter_25 : decode cX3_letter 25 = .ok (.iload_n 1, 1) := by decide +kernel
theorem dX3_letter_26 : decode cX3_letter 26 = .ok (.iaload, 1) := by decide +kernel
theorem dX3_letter_27 : decode cX3_letter 27 = .ok (.goto 4, 3) := by decide +kernel
theorem dX3_letter_30 : decode cX3_letter 30 = .ok (.iconst 0, 1) := by decide +kernel
theorem dX3_letter_31 : decode cX3_letter 31 = .ok (.ireturn, 1) := by decide +kernel
theorem dX3_figure_0 : decode cX3_figure 0 = .ok (.aload_n 0, 1) := by decide +kernel
theorem dX3_figure_1 : decode cX3_figure 1 = .ok (.iload_n 1, 1) := by decide +kernel
theorem dX3_figure_2 : decode cX3_figure 2 = .ok (.invokevirtual 19, 3) := by decide +kernel
theorem dX3_figure_5 : decode cX3_figure 5 = .ok (.bipush 48, 2) := by decide +kernel
theorem dX3_figure_7 : decode cX3_figure 7 = .ok (.isub, 1) := by decide +kernel
theorem dX3_figure_8 : decode cX3_figure 8 = .ok (.ireturn, 1) := by decide +kernel
theorem dX3_firstFault_0 : decode cX3_firstFault 0 = .ok (.iconst 0, 1) := by decide +kernel
theorem dX3_firstFault_1 : decode cX3_firstFault 1 = .ok (.istore_n 1, 1) := by decide +kernel
theorem dX3_firstFault_2 : decode cX3_firstFault 2 = .ok (.iconst 0, 1) := by decide +kernel
theorem dX3_firstFault_3 : decode cX3_firstFault 3 = .ok (.istore_n 2, 1) := by decide +kernel
theorem dX3_firstFault_4 : decode cX3_firstFault 4 = .ok (.bipush 77, 2) := by decide +kernel
theorem dX3_firstFault_6 : decode cX3_firstFault 6 = .ok (.istore_n 3, 1) := by decide +kernel
theorem dX3_firstFault_7 : decode cX3_firstFault 7 = .ok (.iconst 0, 1) := by decide +kernel
theorem dX3_firstFault_8 : decode cX3_firstFault 8 = .ok (.istore 4, 2) := by decide +kernel
theorem dX3_firstFault_10 : decode cX3_firstFault 10 = .ok (.iload 4, 2) := by decide +kernel
theorem dX3_firstFault_12 : decode cX3_firstFault 12 = .ok (.aload_n 0, 1) := by decide +kernel
theorem dX3_firstFault_13 : decode cX3_firstFault 13 = .ok (.getfield 15, 3) := by decide +kernel
theorem dX3_firstFault_16 : decode cX3_firstFault 16 = .ok (.if_icmp .ge 147, 3) := by decide +kernel
theorem dX3_firstFault_19 : decode cX3_firstFault 19 = .ok (.aload_n 0, 1) := by decide +kernel
theorem dX3_firstFault_20 : decode cX3_firstFault 20 = .ok (.iload 4, 2) := by decide +kernel
theorem dX3_firstFault_22 : decode cX3_firstFault 22 = .ok (.invokevirtual 19, 3) := by decide +kernel
theorem dX3_firstFault_25 : decode cX3_firstFault 25 = .ok (.istore 5, 2) := by decide +kernel
theorem dX3_firstFault_27 : decode cX3_firstFault 27 = .ok (.iload 5, 2) := by decide +kernel
theorem dX3_firstFault_29 : decode cX3_firstFault 29 = .ok (.bipush 65, 2) := by decide +kernel
theorem dX3_firstFault_31 : decode cX3_firstFault 31 = .ok (.if_icmp .ne 12, 3) := by decide +kernel
theorem dX3_firstFault_34 : decode cX3_firstFault 34 = .ok (.iload_n 2, 1) := by decide +kernel
theorem dX3_firstFault_35 : decode cX3_firstFault 35 = .ok (.iconst 5, 1) := by decide +kernel
theorem dX3_firstFault_36 : decode cX3_firstFault 36 = .ok (.if_icmp .ge 7, 3) := by decide +kernel
theorem dX3_firstFault_39 : decode cX3_firstFault 39 = .ok (.iconst 1, 1) := by decide +kernel
theorem dX3_firstFault_40 : decode cX3_firstFault 40 = .ok (.goto 4, 3) := by decide +kernel
theorem dX3_firstFault_43 : decode cX3_firstFault 43 = .ok (.iconst 0, 1) := by decide +kernel
theorem dX3_firstFault_44 : decode cX3_firstFault 44 = .ok (.istore 6, 2) := by decide +kernel
theorem dX3_firstFault_46 : decode cX3_firstFault 46 = .ok (.iload 5, 2) := by decide +kernel
theorem dX3_firstFault_48 : decode cX3_firstFault 48 = .ok (.bipush 77, 2) := by decide +kernel
theorem dX3_firstFault_50 : decode cX3_firstFault 50 = .ok (.if_icmp .ne 12, 3) := by decide +kernel
theorem dX3_firstFault_53 : decode cX3_firstFault 53 = .ok (.iload_n 1, 1) := by decide +kernel
theorem dX3_firstFault_54 : decode cX3_firstFault 54 = .ok (.iconst 5, 1) := by decide +kernel
theorem dX3_firstFault_55 : decode cX3_firstFault 55 = .ok (.if_icmp .ge 7, 3) := by decide +kernel
theorem dX3_firstFault_58 : decode cX3_firstFault 58 = .ok (.iconst 1, 1) := by decide +kernel
theorem dX3_firstFault_59 : decode cX3_firstFault 59 = .ok (.goto 4, 3) := by decide +kernel
theorem dX3_firstFault_62 : decode cX3_firstFault 62 = .ok (.iconst 0, 1) := by decide +kernel
theorem dX3_firstFault_63 : decode cX3_firstFault 63 = .ok (.istore 7, 2) := by decide +kernel
theorem dX3_firstFault_65 : decode cX3_firstFault 65 = .ok (.iload 4, 2) := by decide +kernel
theorem dX3_firstFault_67 : decode cX3_firstFault 67 = .ok (.ifCond .ne 13, 3) := by decide +kernel
theorem dX3_firstFault_70 : decode cX3_firstFault 70 = .ok (.iload 5, 2) := by decide +kernel
theorem dX3_firstFault_72 : decode cX3_firstFault 72 = .ok (.bipush 77, 2) := by decide +kernel
theorem dX3_firstFault_74 : decode cX3_firstFault 74 = .ok (.if_icmp .eq 83, 3) := by decide +kernel
theorem dX3_firstFault_77 : decode cX3_firstFault 77 = .ok (.iload 4, 2) := by decide +kernel
theorem dX3_firstFault_79 : decode cX3_firstFault 79 = .ok (.ireturn, 1) := by decide +kernel
theorem dX3_firstFault_80 : decode cX3_firstFault 80 = .ok (.iload 4, 2) := by decide +kernel
theorem dX3_firstFault_82 : decode cX3_firstFault 82 = .ok (.iconst 4, 1) := by decide +kernel
theorem dX3_firstFault_83 : decode cX3_firstFault 83 = .ok (.irem, 1) := by decide +kernel
theorem dX3_firstFault_84 : decode cX3_firstFault 84 = .ok (.iconst 1, 1) := by decide +kernel
theorem dX3_firstFault_85 : decode cX3_firstFault 85 = .ok (.if_icmp .ne 48, 3) := by decide +kernel
theorem dX3_firstFault_88 : decode cX3_firstFault 88 = .ok (.iload 6, 2) := by decide +kernel
theorem dX3_firstFault_90 : decode cX3_firstFault 90 = .ok (.ifCond .ne 11, 3) := by decide +kernel
theorem dX3_firstFault_93 : decode cX3_firstFault 93 = .ok (.iload 7, 2) := by decide +kernel
theorem dX3_firstFault_95 : decode cX3_firstFault 95 = .ok (.ifCond .ne 6, 3) := by decide +kernel
theorem dX3_firstFault_98 : decode cX3_firstFault 98 = .ok (.iload 4, 2) := by decide +kernel
theorem dX3_firstFault_100 : decode cX3_firstFault 100 = .ok (.ireturn, 1) := by decide +kernel
theorem dX3_firstFault_101 : decode cX3_firstFault 101 = .ok (.iload 5, 2) := by decide +kernel
theorem dX3_firstFault_103 : decode cX3_firstFault 103 = .ok (.istore_n 3, 1) := by decide +kernel
theorem dX3_firstFault_104 : decode cX3_firstFault 104 = .ok (.iload_n 2, 1) := by decide +kernel
theorem dX3_firstFault_105 : decode cX3_firstFault 105 = .ok (.iload 6, 2) := by decide +kernel
theorem dX3_firstFault_107 : decode cX3_firstFault 107 = .ok (.ifCond .eq 7, 3) := by decide +kernel
theorem dX3_firstFault_110 : decode cX3_firstFault 110 = .ok (.iconst 1, 1) := by decide +kernel
theorem dX3_firstFault_111 : decode cX3_firstFault 111 = .ok (.goto 4, 3) := by decide +kernel
theorem dX3_firstFault_114 : decode cX3_firstFault 114 = .ok (.iconst 0, 1) := by decide +kernel
theorem dX3_firstFault_115 : decode cX3_firstFault 115 = .ok (.iadd, 1) := by decide +kernel
theorem dX3_firstFault_116 : decode cX3_firstFault 116 = .ok (.istore_n 2, 1) := by decide +kernel
theorem dX3_firstFault_117 : decode cX3_firstFault 117 = .ok (.iload_n 1, 1) := by decide +kernel
theorem dX3_firstFault_118 : decode cX3_firstFault 118 = .ok (.iload 7, 2) := by decide +kernel
theorem dX3_firstFault_120 : decode cX3_firstFault 120 = .ok (.ifCond .eq 7, 3) := by decide +kernel
theorem dX3_firstFault_123 : decode cX3_firstFault 123 = .ok (.iconst 1, 1) := by decide +kernel
theorem dX3_firstFault_124 : decode cX3_firstFault 124 = .ok (.goto 4, 3) := by decide +kernel
theorem dX3_firstFault_127 : decode cX3_firstFault 127 = .ok (.iconst 0, 1) := by decide +kernel
theorem dX3_firstFault_128 : decode cX3_firstFault 128 = .ok (.iadd, 1) := by decide +kernel
theorem dX3_firstFault_129 : decode cX3_firstFault 129 = .ok (.istore_n 1, 1) := by decide +kernel
theorem dX3_firstFault_130 : decode cX3_firstFault 130 = .ok (.goto 27, 3) := by decide +kernel
theorem dX3_firstFault_133 : decode cX3_firstFault 133 = .ok (.iload 5, 2) := by decide +kernel
theorem dX3_firstFault_135 : decode cX3_firstFault 135 = .ok (.bipush 48, 2) := by decide +kernel
theorem dX3_firstFault_137 : decode cX3_firstFault 137 = .ok (.if_icmp .lt 17, 3) := by decide +kernel
theorem dX3_firstFault_140 : decode cX3_firstFault 140 = .ok (.iload 5, 2) := by decide +kernel
theorem dX3_firstFault_142 : decode cX3_firstFault 142 = .ok (.bipush 48, 2) := by decide +kernel
theorem dX3_firstFault_144 : decode cX3_firstFault 144 = .ok (.iload 4, 2) := by decide +kernel
theorem dX3_firstFault_146 : decode cX3_firstFault 146 = .ok (.iload_n 3, 1) := by decide +kernel
theorem dX3_firstFault_147 : decode cX3_firstFault 147 = .ok (.invokestatic 23, 3) := by decide +kernel
theorem dX3_firstFault_150 : decode cX3_firstFault 150 = .ok (.iadd, 1) := by decide +kernel
theorem dX3_firstFault_151 : decode cX3_firstFault 151 = .ok (.if_icmp .lt 6, 3) := by decide +kernel
theorem dX3_firstFault_154 : decode cX3_firstFault 154 = .ok (.iload 4, 2) := by decide +kernel
theorem dX3_firstFault_156 : decode cX3_firstFault 156 = .ok (.ireturn, 1) := by decide +kernel
theorem dX3_firstFault_157 : decode cX3_firstFault 157 = .ok (.iinc 4 1, 3) := by decide +kernel
theorem dX3_firstFault_160 : decode cX3_firstFault 160 = .ok (.goto (-150), 3) := by decide +kernel
theorem dX3_firstFault_163 : decode cX3_firstFault 163 = .ok (.aload_n 0, 1) := by decide +kernel
theorem dX3_firstFault_164 : decode cX3_firstFault 164 = .ok (.getfield 15, 3) := by decide +kernel
theorem dX3_firstFault_167 : decode cX3_firstFault 167 = .ok (.iconst 4, 1) := by decide +kernel
theorem dX3_firstFault_168 : decode cX3_firstFault 168 = .ok (.irem, 1) := by decide +kernel
theorem dX3_firstFault_169 : decode cX3_firstFault 169 = .ok (.iconst 1, 1) := by decide +kernel
theorem dX3_firstFault_170 : decode cX3_firstFault 170 = .ok (.if_icmp .ne 8, 3) := by decide +kernel
theorem dX3_firstFault_173 : decode cX3_firstFault 173 = .ok (.bipush (-9), 2) := by decide +kernel
theorem dX3_firstFault_175 : decode cX3_firstFault 175 = .ok (.goto 7, 3) := by decide +kernel
theorem dX3_firstFault_178 : decode cX3_firstFault 178 = .ok (.aload_n 0, 1) := by decide +kernel
theorem dX3_firstFault_179 : decode cX3_firstFault 179 = .ok (.getfield 15, 3) := by decide +kernel
theorem dX3_firstFault_182 : decode cX3_firstFault 182 = .ok (.ireturn, 1) := by decide +kernel
theorem dX3_figuresAt_0 : decode cX3_figuresAt 0 = .ok (.iload_n 0, 1) := by decide +kernel
theorem dX3_figuresAt_1 : decode cX3_figuresAt 1 = .ok (.iconst 4, 1) := by decide +kernel
theorem dX3_figuresAt_2 : decode cX3_figuresAt 2 = .ok (.irem, 1) := by decide +kernel
theorem dX3_figuresAt_3 : decode cX3_figuresAt 3 = .ok (.lookupswitch 40 #[(2, 25), (3, 28)], 25) := by decide +kernel
theorem dX3_figuresAt_28 : decode cX3_figuresAt 28 = .ok (.bipush 10, 2) := by decide +kernel
theorem dX3_figuresAt_30 : decode cX3_figuresAt 30 = .ok (.ireturn, 1) := by decide +kernel
theorem dX3_figuresAt_31 : decode cX3_figuresAt 31 = .ok (.iload_n 1, 1) := by decide +kernel
theorem dX3_figuresAt_32 : decode cX3_figuresAt 32 = .ok (.bipush 65, 2) := by decide +kernel
theorem dX3_figuresAt_34 : decode cX3_figuresAt 34 = .ok (.if_icmp .ne 7, 3) := by decide +kernel
theorem dX3_figuresAt_37 : decode cX3_figuresAt 37 = .ok (.iconst 4, 1) := by decide +kernel
theorem dX3_figuresAt_38 : decode cX3_figuresAt 38 = .ok (.goto 4, 3) := by decide +kernel
theorem dX3_figuresAt_41 : decode cX3_figuresAt 41 = .ok (.iconst 4, 1) := by decide +kernel
theorem dX3_figuresAt_42 : decode cX3_figuresAt 42 = .ok (.ireturn, 1) := by decide +kernel
theorem dX3_figuresAt_43 : decode cX3_figuresAt 43 = .ok (.iload_n 1, 1) := by decide +kernel
theorem dX3_figuresAt_44 : decode cX3_figuresAt 44 = .ok (.bipush 65, 2) := by decide +kernel
theorem dX3_figuresAt_46 : decode cX3_figuresAt 46 = .ok (.if_icmp .ne 8, 3) := by decide +kernel
theorem dX3_figuresAt_49 : decode cX3_figuresAt 49 = .ok (.bipush 10, 2) := by decide +kernel
theorem dX3_figuresAt_51 : decode cX3_figuresAt 51 = .ok (.goto 4, 3) := by decide +kernel
theorem dX3_figuresAt_54 : decode cX3_figuresAt 54 = .ok (.iconst 4, 1) := by decide +kernel
theorem dX3_figuresAt_55 : decode cX3_figuresAt 55 = .ok (.ireturn, 1) := by decide +kernel
theorem dX4_init_0 : decode cX4_init 0 = .ok (.aload_n 0, 1) := by decide +kernel
theorem dX4_init_1 : decode cX4_init 1 = .ok (.invokespecial 1, 3) := by decide +kernel
theorem dX4_init_4 : decode cX4_init 4 = .ok (.aload_n 0, 1) := by decide +kernel
theorem dX4_init_5 : decode cX4_init 5 = .ok (.new 7, 3) := by decide +kernel
theorem dX4_init_8 : decode cX4_init 8 = .ok (.dup, 1) := by decide +kernel
theorem dX4_init_9 : decode cX4_init 9 = .ok (.invokespecial 9, 3) := by decide +kernel
theorem dX4_init_12 : decode cX4_init 12 = .ok (.putfield 10, 3) := by decide +kernel
theorem dX4_init_15 : decode cX4_init 15 = .ok (.aload_n 0, 1) := by decide +kernel
theorem dX4_init_16 : decode cX4_init 16 = .ok (.new 16, 3) := by decide +kernel
theorem dX4_init_19 : decode cX4_init 19 = .ok (.dup, 1) := by decide +kernel
theorem dX4_init_20 : decode cX4_init 20 = .ok (.invokespecial 18, 3) := by decide +kernel
theorem dX4_init_23 : decode cX4_init 23 = .ok (.putfield 19, 3) := by decide +kernel
theorem dX4_init_26 : decode cX4_init 26 = .ok (.aload_n 0, 1) := by decide +kernel
theorem dX4_init_27 : decode cX4_init 27 = .ok (.iconst 5, 1) := by decide +kernel
theorem dX4_init_28 : decode cX4_init 28 = .ok (.newarray .int, 2) := by decide +kernel
theorem dX4_init_30 : decode cX4_init 30 = .ok (.putfield 23, 3) := by decide +kernel
theorem dX4_init_33 : decode cX4_init 33 = .ok (.aload_n 0, 1) := by decide +kernel
theorem dX4_init_34 : decode cX4_init 34 = .ok (.iconst 0, 1) := by decide +kernel
theorem dX4_init_35 : decode cX4_init 35 = .ok (.putfield 27, 3) := by decide +kernel
theorem dX4_init_38 : decode cX4_init 38 = .ok (.aload_n 0, 1) := by decide +kernel
theorem dX4_init_39 : decode cX4_init 39 = .ok (.new 31, 3) := by decide +kernel
theorem dX4_init_42 : decode cX4_init 42 = .ok (.dup, 1) := by decide +kernel
theorem dX4_init_43 : decode cX4_init 43 = .ok (.invokespecial 33, 3) := by decide +kernel
theorem dX4_init_46 : decode cX4_init 46 = .ok (.putfield 34, 3) := by decide +kernel
theorem dX4_init_49 : decode cX4_init 49 = .ok (.aload_n 0, 1) := by decide +kernel
theorem dX4_init_50 : decode cX4_init 50 = .ok (.new 31, 3) := by decide +kernel
theorem dX4_init_53 : decode cX4_init 53 = .ok (.dup, 1) := by decide +kernel
theorem dX4_init_54 : decode cX4_init 54 = .ok (.invokespecial 33, 3) := by decide +kernel
theorem dX4_init_57 : decode cX4_init 57 = .ok (.putfield 38, 3) := by decide +kernel
theorem dX4_init_60 : decode cX4_init 60 = .ok (.aload_n 0, 1) := by decide +kernel
theorem dX4_init_61 : decode cX4_init 61 = .ok (.bipush 14, 2) := by decide +kernel
theorem dX4_init_63 : decode cX4_init 63 = .ok (.anewarray 31, 3) := by decide +kernel
theorem dX4_init_66 : decode cX4_init 66 = .ok (.putfield 41, 3) := by decide +kernel
theorem dX4_init_69 : decode cX4_init 69 = .ok (.aload_n 0, 1) := by decide +kernel
theorem dX4_init_70 : decode cX4_init 70 = .ok (.iconst 0, 1) := by decide +kernel
theorem dX4_init_71 : decode cX4_init 71 = .ok (.putfield 45, 3) := by decide +kernel
theorem dX4_init_74 : decode cX4_init 74 = .ok (.aload_n 0, 1) := by decide +kernel
theorem dX4_init_75 : decode cX4_init 75 = .ok (.iconst 0, 1) := by decide +kernel
theorem dX4_init_76 : decode cX4_init 76 = .ok (.putfield 48, 3) := by decide +kernel
theorem dX4_init_79 : decode cX4_init 79 = .ok (.aload_n 0, 1) := by decide +kernel
theorem dX4_init_80 : decode cX4_init 80 = .ok (.iconst 2, 1) := by decide +kernel
theorem dX4_init_81 : decode cX4_init 81 = .ok (.anewarray 31, 3) := by decide +kernel
theorem dX4_init_84 : decode cX4_init 84 = .ok (.putfield 51, 3) := by decide +kernel
theorem dX4_init_87 : decode cX4_init 87 = .ok (.aload_n 0, 1) := by decide +kernel
theorem dX4_init_88 : decode cX4_init 88 = .ok (.iconst 2, 1) := by decide +kernel
theorem dX4_init_89 : decode cX4_init 89 = .ok (.newarray .boolean, 2) := by decide +kernel
theorem dX4_init_91 : decode cX4_init 91 = .ok (.putfield 54, 3) := by decide +kernel
theorem dX4_init_94 : decode cX4_init 94 = .ok (.aload_n 0, 1) := by decide +kernel
theorem dX4_init_95 : decode cX4_init 95 = .ok (.new 58, 3) := by decide +kernel
theorem dX4_init_98 : decode cX4_init 98 = .ok (.dup, 1) := by decide +kernel
theorem dX4_init_99 : decode cX4_init 99 = .ok (.invokespecial 60, 3) := by decide +kernel
theorem dX4_init_102 : decode cX4_init 102 = .ok (.putfield 61, 3) := by decide +kernel
theorem dX4_init_105 : decode cX4_init 105 = .ok (.aload_n 0, 1) := by decide +kernel
theorem dX4_init_106 : decode cX4_init 106 = .ok (.bipush 6, 2) := by decide +kernel
theorem dX4_init_108 : decode cX4_init 108 = .ok (.newarray .int, 2) := by decide +kernel
theorem dX4_init_110 : decode cX4_init 110 = .ok (.putfield 65, 3) := by decide +kernel
theorem dX4_init_113 : decode cX4_init 113 = .ok (.aload_n 0, 1) := by decide +kernel
theorem dX4_init_114 : decode cX4_init 114 = .ok (.lconst 0, 1) := by decide +kernel
theorem dX4_init_115 : decode cX4_init 115 = .ok (.putfield 68, 3) := by decide +kernel
theorem dX4_init_118 : decode cX4_init 118 = .ok (.iconst 0, 1) := by decide +kernel
theorem dX4_init_119 : decode cX4_init 119 = .ok (.istore_n 1, 1) := by decide +kernel
theorem dX4_init_120 : decode cX4_init 120 = .ok (.iload_n 1, 1) := by decide +kernel
theorem dX4_init_121 : decode cX4_init 121 = .ok (.aload_n 0, 1) := by decide +kernel
theorem dX4_init_122 : decode cX4_init 122 = .ok (.getfield 41, 3) := by decide +kernel
theorem dX4_init_125 : decode cX4_init 125 = .ok (.arraylength, 1) := by decide +kernel
theorem dX4_init_126 : decode cX4_init 126 = .ok (.if_icmp .ge 22, 3) := by decide +kernel
theorem dX4_init_129 : decode cX4_init 129 = .ok (.aload_n 0, 1) := by decide +kernel
theorem dX4_init_130 : decode cX4_init 130 = .ok (.getfield 41, 3) := by decide +kernel
theorem dX4_init_133 : decode cX4_init 133 = .ok (.iload_n 1, 1) := by decide +kernel
theorem dX4_init_134 : decode cX4_init 134 = .ok (.new 31, 3) := by decide +kernel
theorem dX4_init_137 : decode cX4_init 137 = .ok (.dup, 1) := by decide +kernel
theorem dX4_init_138 : decode cX4_init 138 = .ok (.invokespecial 33, 3) := by decide +kernel
theorem dX4_init_141 : decode cX4_init 141 = .ok (.aastore, 1) := by decide +kernel
theorem dX4_init_142 : decode cX4_init 142 = .ok (.iinc 1 1, 3) := by decide +kernel
theorem dX4_init_145 : decode cX4_init 145 = .ok (.goto (-25), 3) := by decide +kernel
theorem dX4_init_148 : decode cX4_init 148 = .ok (.iconst 0, 1) := by decide +kernel
theorem dX4_init_149 : decode cX4_init 149 = .ok (.istore_n 1, 1) := by decide +kernel
theorem dX4_init_150 : decode cX4_init 150 = .ok (.iload_n 1, 1) := by decide +kernel
theorem dX4_init_151 : decode cX4_init 151 = .ok (.aload_n 0, 1) := by decide +kernel
theorem dX4_init_152 : decode cX4_init 152 = .ok (.getfield 51, 3) := by decide +kernel
theorem dX4_init_155 : decode cX4_init 155 = .ok (.arraylength, 1) := by decide +kernel
theorem dX4_init_156 : decode cX4_init 156 = .ok (.if_icmp .ge 22, 3) := by decide +kernel
theorem dX4_init_159 : decode cX4_init 159 = .ok (.aload_n 0, 1) := by decide +kernel
theorem dX4_init_160 : decode cX4_init 160 = .ok (.getfield 51, 3) := by decide +kernel
theorem dX4_init_163 : decode cX4_init 163 = .ok (.iload_n 1, 1) := by decide +kernel
theorem dX4_init_164 : decode cX4_init 164 = .ok (.new 31, 3) := by decide +kernel
theorem dX4_init_167 : decode cX4_init 167 = .ok (.dup, 1) := by decide +kernel
theorem dX4_init_168 : decode cX4_init 168 = .ok (.invokespecial 33, 3) := by decide +kernel
theorem dX4_init_171 : decode cX4_init 171 = .ok (.aastore, 1) := by decide +kernel
theorem dX4_init_172 : decode cX4_init 172 = .ok (.iinc 1 1, 3) := by decide +kernel
theorem dX4_init_175 : decode cX4_init 175 = .ok (.goto (-25), 3) := by decide +kernel
theorem dX4_init_178 : decode cX4_init 178 = .ok (.return_, 1) := by decide +kernel
theorem dX4_write_0 : decode cX4_write 0 = .ok (.iload_n 1, 1) := by decide +kernel
theorem dX4_write_1 : decode cX4_write 1 = .ok (.ifCond .lt 10, 3) := by decide +kernel
theorem dX4_write_4 : decode cX4_write 4 = .ok (.iload_n 1, 1) := by decide +kernel
theorem dX4_write_5 : decode cX4_write 5 = .ok (.sipush 255, 3) := by decide +kernel
theorem dX4_write_8 : decode cX4_write 8 = .ok (.if_icmp .le 6, 3) := by decide +kernel
theorem dX4_write_11 : decode cX4_write 11 = .ok (.bipush (-2), 2) := by decide +kernel
theorem dX4_write_13 : decode cX4_write 13 = .ok (.ireturn, 1) := by decide +kernel
theorem dX4_write_14 : decode cX4_write 14 = .ok (.aload_n 0, 1) := by decide +kernel
theorem dX4_write_15 : decode cX4_write 15 = .ok (.getfield 10, 3) := by decide +kernel
theorem dX4_write_18 : decode cX4_write 18 = .ok (.iload_n 1, 1) := by decide +kernel
theorem dX4_write_19 : decode cX4_write 19 = .ok (.invokevirtual 72, 3) := by decide +kernel
theorem dX4_write_22 : decode cX4_write 22 = .ok (.ifCond .eq 13, 3) := by decide +kernel
theorem dX4_write_25 : decode cX4_write 25 = .ok (.aload_n 0, 1) := by decide +kernel
theorem dX4_write_26 : decode cX4_write 26 = .ok (.getfield 10, 3) := by decide +kernel
theorem dX4_write_29 : decode cX4_write 29 = .ok (.getfield 76, 3) := by decide +kernel
theorem dX4_write_32 : decode cX4_write 32 = .ok (.goto 5, 3) := by decide +kernel
theorem dX4_write_35 : decode cX4_write 35 = .ok (.bipush (-4), 2) := by decide +kernel
theorem dX4_write_37 : decode cX4_write 37 = .ok (.ireturn, 1) := by decide +kernel
theorem dX4_wipe_0 : decode cX4_wipe 0 = .ok (.aload_n 0, 1) := by decide +kernel
theorem dX4_wipe_1 : decode cX4_wipe 1 = .ok (.getfield 10, 3) := by decide +kernel
theorem dX4_wipe_4 : decode cX4_wipe 4 = .ok (.getfield 76, 3) := by decide +kernel
theorem dX4_wipe_7 : decode cX4_wipe 7 = .ok (.istore_n 1, 1) := by decide +kernel
theorem dX4_wipe_8 : decode cX4_wipe 8 = .ok (.aload_n 0, 1) := by decide +kernel
theorem dX4_wipe_9 : decode cX4_wipe 9 = .ok (.getfield 10, 3) := by decide +kernel
theorem dX4_wipe_12 : decode cX4_wipe 12 = .ok (.iconst 0, 1) := by decide +kernel
theorem dX4_wipe_13 : decode cX4_wipe 13 = .ok (.putfield 76, 3) := by decide +kernel
theorem dX4_wipe_16 : decode cX4_wipe 16 = .ok (.iload_n 1, 1) := by decide +kernel
theorem dX4_wipe_17 : decode cX4_wipe 17 = .ok (.ireturn, 1) := by decide +kernel
theorem dX4_fault_0 : decode cX4_fault 0 = .ok (.aload_n 0, 1) := by decide +kernel
theorem dX4_fault_1 : decode cX4_fault 1 = .ok (.getfield 10, 3) := by decide +kernel
theorem dX4_fault_4 : decode cX4_fault 4 = .ok (.invokevirtual 79, 3) := by decide +kernel
theorem dX4_fault_7 : decode cX4_fault 7 = .ok (.ireturn, 1) := by decide +kernel
theorem dX4_treaty_0 : decode cX4_treaty 0 = .ok (.aload_n 0, 1) := by decide +kernel
theorem dX4_treaty_1 : decode cX4_treaty 1 = .ok (.getfield 10, 3) := by decide +kernel
theorem dX4_treaty_4 : decode cX4_treaty 4 = .ok (.invokevirtual 79, 3) := by decide +kernel
theorem dX4_treaty_7 : decode cX4_treaty 7 = .ok (.bipush (-9), 2) := by decide +kernel
theorem dX4_treaty_9 : decode cX4_treaty 9 = .ok (.if_icmp .eq 6, 3) := by decide +kernel
theorem dX4_treaty_12 : decode cX4_treaty 12 = .ok (.bipush (-3), 2) := by decide +kernel
theorem dX4_treaty_14 : decode cX4_treaty 14 = .ok (.ireturn, 1) := by decide +kernel
theorem dX4_treaty_15 : decode cX4_treaty 15 = .ok (.aload_n 0, 1) := by decide +kernel
theorem dX4_treaty_16 : decode cX4_treaty 16 = .ok (.iconst 0, 1) := by decide +kernel
theorem dX4_treaty_17 : decode cX4_treaty 17 = .ok (.putfield 27, 3) := by decide +kernel
theorem dX4_treaty_20 : decode cX4_treaty 20 = .ok (.aload_n 0, 1) := by decide +kernel
theorem dX4_treaty_21 : decode cX4_treaty 21 = .ok (.getfield 19, 3) := by decide +kernel
theorem dX4_treaty_24 : decode cX4_treaty 24 = .ok (.iconst 0, 1) := by decide +kernel
theorem dX4_treaty_25 : decode cX4_treaty 25 = .ok (.putfield 83, 3) := by decide +kernel
theorem dX4_treaty_28 : decode cX4_treaty 28 = .ok (.aload_n 0, 1) := by decide +kernel
theorem dX4_treaty_29 : decode cX4_treaty 29 = .ok (.getfield 34, 3) := by decide +kernel
theorem dX4_treaty_32 : decode cX4_treaty 32 = .ok (.iconst 0, 1) := by decide +kernel
theorem dX4_treaty_33 : decode cX4_treaty 33 = .ok (.putfield 86, 3) := by decide +kernel
theorem dX4_treaty_36 : decode cX4_treaty 36 = .ok (.aload_n 0, 1) := by decide +kernel
theorem dX4_treaty_37 : decode cX4_treaty 37 = .ok (.getfield 34, 3) := by decide +kernel
theorem dX4_treaty_40 : decode cX4_treaty 40 = .ok (.iconst 0, 1) := by decide +kernel
theorem dX4_treaty_41 : decode cX4_treaty 41 = .ok (.putfield 89, 3) := by decide +kernel
theorem dX4_treaty_44 : decode cX4_treaty 44 = .ok (.iconst 1, 1) := by decide +kernel
theorem dX4_treaty_45 : decode cX4_treaty 45 = .ok (.istore_n 1, 1) := by decide +kernel
theorem dX4_treaty_46 : decode cX4_treaty 46 = .ok (.iload_n 1, 1) := by decide +kernel
theorem dX4_treaty_47 : decode cX4_treaty 47 = .ok (.aload_n 0, 1) := by decide +kernel
theorem dX4_treaty_48 : decode cX4_treaty 48 = .ok (.getfield 10, 3) := by decide +kernel
theorem dX4_treaty_51 : decode cX4_treaty 51 = .ok (.getfield 76, 3) := by decide +kernel
theorem dX4_treaty_54 : decode cX4_treaty 54 = .ok (.if_icmp .ge 14, 3) := by decide +kernel
theorem dX4_treaty_57 : decode cX4_treaty 57 = .ok (.aload_n 0, 1) := by decide +kernel
theorem dX4_treaty_58 : decode cX4_treaty 58 = .ok (.iload_n 1, 1) := by decide +kernel
theorem dX4_treaty_59 : decode cX4_treaty 59 = .ok (.invokevirtual 92, 3) := by decide +kernel
theorem dX4_treaty_62 : decode cX4_treaty 62 = .ok (.iinc 1 4, 3) := by decide +kernel
theorem dX4_treaty_65 : decode cX4_treaty 65 = .ok (.goto (-19), 3) := by decide +kernel
theorem dX4_treaty_68 : decode cX4_treaty 68 = .ok (.aload_n 0, 1) := by decide +kernel
theorem dX4_treaty_69 : decode cX4_treaty 69 = .ok (.iconst 0, 1) := by decide +kernel
theorem dX4_treaty_70 : decode cX4_treaty 70 = .ok (.putfield 48, 3) := by decide +kernel
theorem dX4_treaty_73 : decode cX4_treaty 73 = .ok (.iconst 0, 1) := by decide +kernel
theorem dX4_treaty_74 : decode cX4_treaty 74 = .ok (.istore_n 1, 1) := by decide +kernel
theorem dX4_treaty_75 : decode cX4_treaty 75 = .ok (.iload_n 1, 1) := by decide +kernel
theorem dX4_treaty_76 : decode cX4_treaty 76 = .ok (.aload_n 0, 1) := by decide +kernel
theorem dX4_treaty_77 : decode cX4_treaty 77 = .ok (.getfield 54, 3) := by decide +kernel
theorem dX4_treaty_80 : decode cX4_treaty 80 = .ok (.arraylength, 1) := by decide +kernel
theorem dX4_treaty_81 : decode cX4_treaty 81 = .ok (.if_icmp .ge 16, 3) := by decide +kernel
theorem dX4_treaty_84 : decode cX4_treaty 84 = .ok (.aload_n 0, 1) := by decide +kernel
theorem dX4_treaty_85 : decode cX4_treaty 85 = .ok (.getfield 54, 3) := by decide +kernel
theorem dX4_treaty_88 : decode cX4_treaty 88 = .ok (.iload_n 1, 1) := by decide +kernel
theorem dX4_treaty_89 : decode cX4_treaty 89 = .ok (.iconst 0, 1) := by decide +kernel
theorem dX4_treaty_90 : decode cX4_treaty 90 = .ok (.bastore, 1) := by decide +kernel
theorem dX4_treaty_91 : decode cX4_treaty 91 = .ok (.iinc 1 1, 3) := by decide +kernel
theorem dX4_treaty_94 : decode cX4_treaty 94 = .ok (.goto (-19), 3) := by decide +kernel
theorem dX4_treaty_97 : decode cX4_treaty 97 = .ok (.bipush 10, 2) := by decide +kernel
theorem dX4_treaty_99 : decode cX4_treaty 99 = .ok (.aload_n 0, 1) := by decide +kernel
theorem dX4_treaty_100 : decode cX4_treaty 100 = .ok (.getfield 27, 3) := by decide +kernel
theorem dX4_treaty_103 : decode cX4_treaty 103 = .ok (.imul, 1) := by decide +kernel
theorem dX4_treaty_104 : decode cX4_treaty 104 = .ok (.aload_n 0, 1) := by decide +kernel
theorem dX4_treaty_105 : decode cX4_treaty 105 = .ok (.getfield 19, 3) := by decide +kernel
theorem dX4_treaty_108 : decode cX4_treaty 108 = .ok (.getfield 83, 3) := by decide +kernel
theorem dX4_treaty_111 : decode cX4_treaty 111 = .ok (.iadd, 1) := by decide +kernel
theorem dX4_treaty_112 : decode cX4_treaty 112 = .ok (.ireturn, 1) := by decide +kernel
theorem dX4_about_0 : decode cX4_about 0 = .ok (.iload_n 1, 1) := by decide +kernel
theorem dX4_about_1 : decode cX4_about 1 = .ok (.tableswitch 93 0 6 #[43, 48, 56, 64, 72, 77, 85], 43) := by decide +kernel
theorem dX4_about_44 : decode cX4_about 44 = .ok (.aload_n 0, 1) := by decide +kernel
theorem dX4_about_45 : decode cX4_about 45 = .ok (.getfield 27, 3) := by decide +kernel
theorem dX4_about_48 : decode cX4_about 48 = .ok (.ireturn, 1) := by decide +kernel
theorem dX4_about_49 : decode cX4_about 49 = .ok (.aload_n 0, 1) := by decide +kernel
theorem dX4_about_50 : decode cX4_about 50 = .ok (.getfield 19, 3) := by decide +kernel
theorem dX4_about_53 : decode cX4_about 53 = .ok (.getfield 83, 3) := by decide +kernel
theorem dX4_about_56 : decode cX4_about 56 = .ok (.ireturn, 1) := by decide +kernel
theorem dX4_about_57 : decode cX4_about 57 = .ok (.aload_n 0, 1) := by decide +kernel
theorem dX4_about_58 : decode cX4_about 58 = .ok (.getfield 34, 3) := by decide +kernel
theorem dX4_about_61 : decode cX4_about 61 = .ok (.getfield 86, 3) := by decide +kernel
theorem dX4_about_64 : decode cX4_about 64 = .ok (.ireturn, 1) := by decide +kernel
theorem dX4_about_65 : decode cX4_about 65 = .ok (.aload_n 0, 1) := by decide +kernel
theorem dX4_about_66 : decode cX4_about 66 = .ok (.getfield 34, 3) := by decide +kernel
theorem dX4_about_69 : decode cX4_about 69 = .ok (.getfield 89, 3) := by decide +kernel
theorem dX4_about_72 : decode cX4_about 72 = .ok (.ireturn, 1) := by decide +kernel
theorem dX4_about_73 : decode cX4_about 73 = .ok (.aload_n 0, 1) := by decide +kernel
theorem dX4_about_74 : decode cX4_about 74 = .ok (.getfield 48, 3) := by decide +kernel
theorem dX4_about_77 : decode cX4_about 77 = .ok (.ireturn, 1) := by decide +kernel
theorem dX4_about_78 : decode cX4_about 78 = .ok (.aload_n 0, 1) := by decide +kernel
theorem dX4_about_79 : decode cX4_about 79 = .ok (.getfield 61, 3) := by decide +kernel
theorem dX4_about_82 : decode cX4_about 82 = .ok (.getfield 96, 3) := by decide +kernel
theorem dX4_about_85 : decode cX4_about 85 = .ok (.ireturn, 1) := by decide +kernel
theorem dX4_about_86 : decode cX4_about 86 = .ok (.aload_n 0, 1) := by decide +kernel
theorem dX4_about_87 : decode cX4_about 87 = .ok (.getfield 10, 3) := by decide +kernel
theorem dX4_about_90 : decode cX4_about 90 = .ok (.getfield 76, 3) := by decide +kernel
theorem dX4_about_93 : decode cX4_about 93 = .ok (.ireturn, 1) := by decide +kernel
theorem dX4_about_94 : decode cX4_about 94 = .ok (.bipush (-2), 2) := by decide +kernel
theorem dX4_about_96 : decode cX4_about 96 = .ok (.ireturn, 1) := by decide +kernel
theorem dX4_article_0 : decode cX4_article 0 = .ok (.aload_n 0, 1) := by decide +kernel
theorem dX4_article_1 : decode cX4_article 1 = .ok (.iload_n 1, 1) := by decide +kernel
theorem dX4_article_2 : decode cX4_article 2 = .ok (.invokevirtual 97, 3) := by decide +kernel
theorem dX4_article_5 : decode cX4_article 5 = .ok (.ifCond .ne 5, 3) := by decide +kernel
theorem dX4_article_8 : decode cX4_article 8 = .ok (.iconst (-1), 1) := by decide +kernel
theorem dX4_article_9 : decode cX4_article 9 = .ok (.ireturn, 1) := by decide +kernel
theorem dX4_article_10 : decode cX4_article 10 = .ok (.iload_n 2, 1) := by decide +kernel
theorem dX4_article_11 : decode cX4_article 11 = .ok (.tableswitch 65 0 3 #[29, 39, 49, 59], 29) := by decide +kernel
theorem dX4_article_40 : decode cX4_article 40 = .ok (.aload_n 0, 1) := by decide +kernel
theorem dX4_article_41 : decode cX4_article 41 = .ok (.getfield 19, 3) := by decide +kernel
theorem dX4_article_44 : decode cX4_article 44 = .ok (.getfield 100, 3) := by decide +kernel
theorem dX4_article_47 : decode cX4_article 47 = .ok (.iload_n 1, 1) := by decide +kernel
theorem dX4_article_48 : decode cX4_article 48 = .ok (.iaload, 1) := by decide +kernel
theorem dX4_article_49 : decode cX4_article 49 = .ok (.ireturn, 1) := by decide +kernel
theorem dX4_article_50 : decode cX4_article 50 = .ok (.aload_n 0, 1) := by decide +kernel
theorem dX4_article_51 : decode cX4_article 51 = .ok (.getfield 19, 3) := by decide +kernel
theorem dX4_article_54 : decode cX4_article 54 = .ok (.getfield 103, 3) := by decide +kernel
theorem dX4_article_57 : decode cX4_article 57 = .ok (.iload_n 1, 1) := by decide +kernel
theorem dX4_article_58 : decode cX4_article 58 = .ok (.iaload, 1) := by decide +kernel
theorem dX4_article_59 : decode cX4_article 59 = .ok (.ireturn, 1) := by decide +kernel
theorem dX4_article_60 : decode cX4_article 60 = .ok (.aload_n 0, 1) := by decide +kernel
theorem dX4_article_61 : decode cX4_article 61 = .ok (.getfield 19, 3) := by decide +kernel
theorem dX4_article_64 : decode cX4_article 64 = .ok (.getfield 106, 3) := by decide +kernel
theorem dX4_article_67 : decode cX4_article 67 = .ok (.iload_n 1, 1) := by decide +kernel
theorem dX4_article_68 : decode cX4_article 68 = .ok (.iaload, 1) := by decide +kernel
theorem dX4_article_69 : decode cX4_article 69 = .ok (.ireturn, 1) := by decide +kernel
theorem dX4_article_70 : decode cX4_article 70 = .ok (.aload_n 0, 1) := by decide +kernel
theorem dX4_article_71 : decode cX4_article 71 = .ok (.iload_n 1, 1) := by decide +kernel
theorem dX4_article_72 : decode cX4_article 72 = .ok (.invokevirtual 109, 3) := by decide +kernel
theorem dX4_article_75 : decode cX4_article 75 = .ok (.ireturn, 1) := by decide +kernel
theorem dX4_article_76 : decode cX4_article 76 = .ok (.bipush (-2), 2) := by decide +kernel
theorem dX4_article_78 : decode cX4_article 78 = .ok (.ireturn, 1) := by decide +kernel
theorem dX4_mule_0 : decode cX4_mule 0 = .ok (.aload_n 0, 1) := by decide +kernel
theorem dX4_mule_1 : decode cX4_mule 1 = .ok (.iload_n 1, 1) := by decide +kernel
theorem dX4_mule_2 : decode cX4_mule 2 = .ok (.invokevirtual 113, 3) := by decide +kernel
theorem dX4_mule_5 : decode cX4_mule 5 = .ok (.ifCond .ne 5, 3) := by decide +kernel
theorem dX4_mule_8 : decode cX4_mule 8 = .ok (.iconst (-1), 1) := by decide +kernel
theorem dX4_mule_9 : decode cX4_mule 9 = .ok (.ireturn, 1) := by decide +kernel
theorem dX4_mule_10 : decode cX4_mule 10 = .ok (.iload_n 2, 1) := by decide +kernel
theorem dX4_mule_11 : decode cX4_mule 11 = .ok (.tableswitch 80 0 4 #[33, 43, 50, 60, 70], 33) := by decide +kernel
theorem dX4_mule_44 : decode cX4_mule 44 = .ok (.aload_n 0, 1) := by decide +kernel
theorem dX4_mule_45 : decode cX4_mule 45 = .ok (.getfield 34, 3) := by decide +kernel
theorem dX4_mule_48 : decode cX4_mule 48 = .ok (.getfield 116, 3) := by decide +kernel
theorem dX4_mule_51 : decode cX4_mule 51 = .ok (.iload_n 1, 1) := by decide +kernel
theorem dX4_mule_52 : decode cX4_mule 52 = .ok (.iaload, 1) := by decide +kernel
theorem dX4_mule_53 : decode cX4_mule 53 = .ok (.ireturn, 1) := by decide +kernel
theorem dX4_mule_54 : decode cX4_mule 54 = .ok (.aload_n 0, 1) := by decide +kernel
theorem dX4_mule_55 : decode cX4_mule 55 = .ok (.getfield 23, 3) := by decide +kernel
theorem dX4_mule_58 : decode cX4_mule 58 = .ok (.iload_n 1, 1) := by decide +kernel
theorem dX4_mule_59 : decode cX4_mule 59 = .ok (.iaload, 1) := by decide +kernel
theorem dX4_mule_60 : decode cX4_mule 60 = .ok (.ireturn, 1) := by decide +kernel
theorem dX4_mule_61 : decode cX4_mule 61 = .ok (.aload_n 0, 1) := by decide +kernel
theorem dX4_mule_62 : decode cX4_mule 62 = .ok (.getfield 34, 3) := by decide +kernel
theorem dX4_mule_65 : decode cX4_mule 65 = .ok (.getfield 117, 3) := by decide +kernel
theorem dX4_mule_68 : decode cX4_mule 68 = .ok (.iload_n 1, 1) := by decide +kernel
theorem dX4_mule_69 : decode cX4_mule 69 = .ok (.iaload, 1) := by decide +kernel
theorem dX4_mule_70 : decode cX4_mule 70 = .ok (.ireturn, 1) := by decide +kernel
theorem dX4_mule_71 : decode cX4_mule 71 = .ok (.aload_n 0, 1) := by decide +kernel
theorem dX4_mule_72 : decode cX4_mule 72 = .ok (.getfield 34, 3) := by decide +kernel
theorem dX4_mule_75 : decode cX4_mule 75 = .ok (.getfield 120, 3) := by decide +kernel
theorem dX4_mule_78 : decode cX4_mule 78 = .ok (.iload_n 1, 1) := by decide +kernel
theorem dX4_mule_79 : decode cX4_mule 79 = .ok (.iaload, 1) := by decide +kernel
theorem dX4_mule_80 : decode cX4_mule 80 = .ok (.ireturn, 1) := by decide +kernel
theorem dX4_mule_81 : decode cX4_mule 81 = .ok (.aload_n 0, 1) := by decide +kernel
theorem dX4_mule_82 : decode cX4_mule 82 = .ok (.aload_n 0, 1) := by decide +kernel
theorem dX4_mule_83 : decode cX4_mule 83 = .ok (.getfield 34, 3) := by decide +kernel
theorem dX4_mule_86 : decode cX4_mule 86 = .ok (.iload_n 1, 1) := by decide +kernel
theorem dX4_mule_87 : decode cX4_mule 87 = .ok (.invokevirtual 123, 3) := by decide +kernel
theorem dX4_mule_90 : decode cX4_mule 90 = .ok (.ireturn, 1) := by decide +kernel
theorem dX4_mule_91 : decode cX4_mule 91 = .ok (.bipush (-2), 2) := by decide +kernel
theorem dX4_mule_93 : decode cX4_mule 93 = .ok (.ireturn, 1) := by decide +kernel
theorem dX4_by_0 : decode cX4_by 0 = .ok (.aload_n 0, 1) := by decide +kernel
theorem dX4_by_1 : decode cX4_by 1 = .ok (.iload_n 1, 1) := by decide +kernel
theorem dX4_by_2 : decode cX4_by 2 = .ok (.iload_n 2, 1) := by decide +kernel
theorem dX4_by_3 : decode cX4_by 3 = .ok (.invokevirtual 127, 3) := by decide +kernel
theorem dX4_by_6 : decode cX4_by 6 = .ok (.istore_n 3, 1) := by decide +kernel
theorem dX4_by_7 : decode cX4_by 7 = .ok (.iload_n 3, 1) := by decide +kernel
theorem dX4_by_8 : decode cX4_by 8 = .ok (.ifCond .eq 7, 3) := by decide +kernel
theorem dX4_by_11 : decode cX4_by 11 = .ok (.iload_n 3, 1) := by decide +kernel
theorem dX4_by_12 : decode cX4_by 12 = .ok (.goto 13, 3) := by decide +kernel
theorem dX4_by_15 : decode cX4_by 15 = .ok (.aload_n 0, 1) := by decide +kernel
theorem dX4_by_16 : decode cX4_by 16 = .ok (.aload_n 0, 1) := by decide +kernel
theorem dX4_by_17 : decode cX4_by 17 = .ok (.getfield 34, 3) := by decide +kernel
theorem dX4_by_20 : decode cX4_by 20 = .ok (.iload_n 1, 1) := by decide +kernel
theorem dX4_by_21 : decode cX4_by 21 = .ok (.iload_n 2, 1) := by decide +kernel
theorem dX4_by_22 : decode cX4_by 22 = .ok (.invokevirtual 131, 3) := by decide +kernel
theorem dX4_by_25 : decode cX4_by 25 = .ok (.ireturn, 1) := by decide +kernel
theorem dX4_balks_0 : decode cX4_balks 0 = .ok (.aload_n 0, 1) := by decide +kernel
theorem dX4_balks_1 : decode cX4_balks 1 = .ok (.iload_n 1, 1) := by decide +kernel
theorem dX4_balks_2 : decode cX4_balks 2 = .ok (.iload_n 2, 1) := by decide +kernel
theorem dX4_balks_3 : decode cX4_balks 3 = .ok (.invokevirtual 127, 3) := by decide +kernel
theorem dX4_balks_6 : decode cX4_balks 6 = .ok (.istore_n 3, 1) := by decide +kernel
theorem dX4_balks_7 : decode cX4_balks 7 = .ok (.iload_n 3, 1) := by decide +kernel
theorem dX4_balks_8 : decode cX4_balks 8 = .ok (.ifCond .eq 7, 3) := by decide +kernel
theorem dX4_balks_11 : decode cX4_balks 11 = .ok (.iload_n 3, 1) := by decide +kernel
theorem dX4_balks_12 : decode cX4_balks 12 = .ok (.goto 16, 3) := by decide +kernel
theorem dX4_balks_15 : decode cX4_balks 15 = .ok (.aload_n 0, 1) := by decide +kernel
theorem dX4_balks_16 : decode cX4_balks 16 = .ok (.aload_n 0, 1) := by decide +kernel
theorem dX4_balks_17 : decode cX4_balks 17 = .ok (.getfield 34, 3) := by decide +kernel
theorem dX4_balks_20 : decode cX4_balks 20 = .ok (.iload_n 1, 1) := by decide +kernel
theorem dX4_balks_21 : decode cX4_balks 21 = .ok (.iload_n 2, 1) := by decide +kernel
theorem dX4_balks_22 : decode cX4_balks 22 = .ok (.invokevirtual 135, 3) := by decide +kernel
theorem dX4_balks_25 : decode cX4_balks 25 = .ok (.invokestatic 138, 3) := by decide +kernel
theorem dX4_balks_28 : decode cX4_balks 28 = .ok (.ireturn, 1) := by decide +kernel
theorem dX4_step_0 : decode cX4_step 0 = .ok (.aload_n 0, 1) := by decide +kernel
theorem dX4_step_1 : decode cX4_step 1 = .ok (.iload_n 1, 1) := by decide +kernel
theorem dX4_step_2 : decode cX4_step 2 = .ok (.iload_n 2, 1) := by decide +kernel
theorem dX4_step_3 : decode cX4_step 3 = .ok (.invokevirtual 127, 3) := by decide +kernel
theorem dX4_step_6 : decode cX4_step 6 = .ok (.istore_n 3, 1) := by decide +kernel
theorem dX4_step_7 : decode cX4_step 7 = .ok (.iload_n 3, 1) := by decide +kernel
theorem dX4_step_8 : decode cX4_step 8 = .ok (.ifCond .eq 5, 3) := by decide +kernel
theorem dX4_step_11 : decode cX4_step 11 = .ok (.iload_n 3, 1) := by decide +kernel
theorem dX4_step_12 : decode cX4_step 12 = .ok (.ireturn, 1) := by decide +kernel
theorem dX4_step_13 : decode cX4_step 13 = .ok (.aload_n 0, 1) := by decide +kernel
theorem dX4_step_14 : decode cX4_step 14 = .ok (.aload_n 0, 1) := by decide +kernel
theorem dX4_step_15 : decode cX4_step 15 = .ok (.getfield 34, 3) := by decide +kernel
theorem dX4_step_18 : decode cX4_step 18 = .ok (.iload_n 1, 1) := by decide +kernel
theorem dX4_step_19 : decode cX4_step 19 = .ok (.iload_n 2, 1) := by decide +kernel
theorem dX4_step_20 : decode cX4_step 20 = .ok (.invokevirtual 141, 3) := by decide +kernel
theorem dX4_step_23 : decode cX4_step 23 = .ok (.ifCond .ne 6, 3) := by decide +kernel
theorem dX4_step_26 : decode cX4_step 26 = .ok (.bipush (-3), 2) := by decide +kernel
theorem dX4_step_28 : decode cX4_step 28 = .ok (.ireturn, 1) := by decide +kernel
theorem dX4_step_29 : decode cX4_step 29 = .ok (.aload_n 0, 1) := by decide +kernel
theorem dX4_step_30 : decode cX4_step 30 = .ok (.invokevirtual 145, 3) := by decide +kernel
theorem dX4_step_33 : decode cX4_step 33 = .ok (.aload_n 0, 1) := by decide +kernel
theorem dX4_step_34 : decode cX4_step 34 = .ok (.aload_n 0, 1) := by decide +kernel
theorem dX4_step_35 : decode cX4_step 35 = .ok (.getfield 34, 3) := by decide +kernel
theorem dX4_step_38 : decode cX4_step 38 = .ok (.iload_n 1, 1) := by decide +kernel
theorem dX4_step_39 : decode cX4_step 39 = .ok (.iload_n 2, 1) := by decide +kernel
theorem dX4_step_40 : decode cX4_step 40 = .ok (.invokevirtual 148, 3) := by decide +kernel
theorem dX4_step_43 : decode cX4_step 43 = .ok (.aload_n 0, 1) := by decide +kernel
theorem dX4_step_44 : decode cX4_step 44 = .ok (.getfield 34, 3) := by decide +kernel
theorem dX4_step_47 : decode cX4_step 47 = .ok (.getfield 116, 3) := by decide +kernel
theorem dX4_step_50 : decode cX4_step 50 = .ok (.iload_n 1, 1) := by decide +kernel
theorem dX4_step_51 : decode cX4_step 51 = .ok (.iaload, 1) := by decide +kernel
theorem dX4_step_52 : decode cX4_step 52 = .ok (.ireturn, 1) := by decide +kernel
theorem dX4_pause_0 : decode cX4_pause 0 = .ok (.aload_n 0, 1) := by decide +kernel
theorem dX4_pause_1 : decode cX4_pause 1 = .ok (.invokevirtual 145, 3) := by decide +kernel
theorem dX4_pause_4 : decode cX4_pause 4 = .ok (.aload_n 0, 1) := by decide +kernel
theorem dX4_pause_5 : decode cX4_pause 5 = .ok (.getfield 34, 3) := by decide +kernel
theorem dX4_pause_8 : decode cX4_pause 8 = .ok (.dup, 1) := by decide +kernel
theorem dX4_pause_9 : decode cX4_pause 9 = .ok (.getfield 86, 3) := by decide +kernel
theorem dX4_pause_12 : decode cX4_pause 12 = .ok (.iconst 1, 1) := by decide +kernel
theorem dX4_pause_13 : decode cX4_pause 13 = .ok (.iadd, 1) := by decide +kernel
theorem dX4_pause_14 : decode cX4_pause 14 = .ok (.putfield 86, 3) := by decide +kernel
theorem dX4_pause_17 : decode cX4_pause 17 = .ok (.aload_n 0, 1) := by decide +kernel
theorem dX4_pause_18 : decode cX4_pause 18 = .ok (.getfield 34, 3) := by decide +kernel
theorem dX4_pause_21 : decode cX4_pause 21 = .ok (.getfield 86, 3) := by decide +kernel
theorem dX4_pause_24 : decode cX4_pause 24 = .ok (.ireturn, 1) := by decide +kernel
theorem dX4_show_0 : decode cX4_show 0 = .ok (.aload_n 0, 1) := by decide +kernel
theorem dX4_show_1 : decode cX4_show 1 = .ok (.iload_n 1, 1) := by decide +kernel
theorem dX4_show_2 : decode cX4_show 2 = .ok (.invokevirtual 113, 3) := by decide +kernel
theorem dX4_show_5 : decode cX4_show 5 = .ok (.ifCond .eq 19, 3) := by decide +kernel
theorem dX4_show_8 : decode cX4_show 8 = .ok (.aload_n 0, 1) := by decide +kernel
theorem dX4_show_9 : decode cX4_show 9 = .ok (.iload_n 2, 1) := by decide +kernel
theorem dX4_show_10 : decode cX4_show 10 = .ok (.invokevirtual 113, 3) := by decide +kernel
theorem dX4_show_13 : decode cX4_show 13 = .ok (.ifCond .eq 11, 3) := by decide +kernel
theorem dX4_show_16 : decode cX4_show 16 = .ok (.aload_n 0, 1) := by decide +kernel
theorem dX4_show_17 : decode cX4_show 17 = .ok (.iload_n 3, 1) := by decide +kernel
theorem dX4_show_18 : decode cX4_show 18 = .ok (.invokevirtual 97, 3) := by decide +kernel
theorem dX4_show_21 : decode cX4_show 21 = .ok (.ifCond .ne 5, 3) := by decide +kernel
theorem dX4_show_24 : decode cX4_show 24 = .ok (.iconst (-1), 1) := by decide +kernel
theorem dX4_show_25 : decode cX4_show 25 = .ok (.ireturn, 1) := by decide +kernel
theorem dX4_show_26 : decode cX4_show 26 = .ok (.iload_n 1, 1) := by decide +kernel
theorem dX4_show_27 : decode cX4_show 27 = .ok (.iload_n 2, 1) := by decide +kernel
theorem dX4_show_28 : decode cX4_show 28 = .ok (.if_icmp .ne 6, 3) := by decide +kernel
theorem dX4_show_31 : decode cX4_show 31 = .ok (.bipush (-2), 2) := by decide +kernel
theorem dX4_show_33 : decode cX4_show 33 = .ok (.ireturn, 1) := by decide +kernel
theorem dX4_show_34 : decode cX4_show 34 = .ok (.iconst 1, 1) := by decide +kernel
theorem dX4_show_35 : decode cX4_show 35 = .ok (.iload_n 3, 1) := by decide +kernel
theorem dX4_show_36 : decode cX4_show 36 = .ok (.ishl, 1) := by decide +kernel
theorem dX4_show_37 : decode cX4_show 37 = .ok (.istore 4, 2) := by decide +kernel
theorem dX4_show_39 : decode cX4_show 39 = .ok (.aload_n 0, 1) := by decide +kernel
theorem dX4_show_40 : decode cX4_show 40 = .ok (.getfield 34, 3) := by decide +kernel
theorem dX4_show_43 : decode cX4_show 43 = .ok (.getfield 116, 3) := by decide +kernel
theorem dX4_show_46 : decode cX4_show 46 = .ok (.iload_n 1, 1) := by decide +kernel
theorem dX4_show_47 : decode cX4_show 47 = .ok (.iaload, 1) := by decide +kernel
theorem dX4_show_48 : decode cX4_show 48 = .ok (.aload_n 0, 1) := by decide +kernel
theorem dX4_show_49 : decode cX4_show 49 = .ok (.getfield 34, 3) := by decide +kernel
theorem dX4_show_52 : decode cX4_show 52 = .ok (.getfield 116, 3) := by decide +kernel
theorem dX4_show_55 : decode cX4_show 55 = .ok (.iload_n 2, 1) := by decide +kernel
theorem dX4_show_56 : decode cX4_show 56 = .ok (.iaload, 1) := by decide +kernel
theorem dX4_show_57 : decode cX4_show 57 = .ok (.if_icmp .ne 7, 3) := by decide +kernel
theorem dX4_show_60 : decode cX4_show 60 = .ok (.iconst 1, 1) := by decide +kernel
theorem dX4_show_61 : decode cX4_show 61 = .ok (.goto 4, 3) := by decide +kernel
theorem dX4_show_64 : decode cX4_show 64 = .ok (.iconst 0, 1) := by decide +kernel
theorem dX4_show_65 : decode cX4_show 65 = .ok (.istore 5, 2) := by decide +kernel
theorem dX4_show_67 : decode cX4_show 67 = .ok (.iload 5, 2) := by decide +kernel
theorem dX4_show_69 : decode cX4_show 69 = .ok (.ifCond .eq 33, 3) := by decide +kernel
theorem dX4_show_72 : decode cX4_show 72 = .ok (.aload_n 0, 1) := by decide +kernel
theorem dX4_show_73 : decode cX4_show 73 = .ok (.aload_n 0, 1) := by decide +kernel
theorem dX4_show_74 : decode cX4_show 74 = .ok (.getfield 34, 3) := by decide +kernel
theorem dX4_show_77 : decode cX4_show 77 = .ok (.iload_n 2, 1) := by decide +kernel
theorem dX4_show_78 : decode cX4_show 78 = .ok (.invokevirtual 123, 3) := by decide +kernel
theorem dX4_show_81 : decode cX4_show 81 = .ok (.iload 4, 2) := by decide +kernel
theorem dX4_show_83 : decode cX4_show 83 = .ok (.iand, 1) := by decide +kernel
theorem dX4_show_84 : decode cX4_show 84 = .ok (.ifCond .eq 18, 3) := by decide +kernel
theorem dX4_show_87 : decode cX4_show 87 = .ok (.aload_n 0, 1) := by decide +kernel
theorem dX4_show_88 : decode cX4_show 88 = .ok (.getfield 34, 3) := by decide +kernel
theorem dX4_show_91 : decode cX4_show 91 = .ok (.getfield 120, 3) := by decide +kernel
theorem dX4_show_94 : decode cX4_show 94 = .ok (.iload_n 1, 1) := by decide +kernel
theorem dX4_show_95 : decode cX4_show 95 = .ok (.iaload, 1) := by decide +kernel
theorem dX4_show_96 : decode cX4_show 96 = .ok (.iload 4, 2) := by decide +kernel
theorem dX4_show_98 : decode cX4_show 98 = .ok (.iand, 1) := by decide +kernel
theorem dX4_show_99 : decode cX4_show 99 = .ok (.ifCond .eq 6, 3) := by decide +kernel
theorem dX4_show_102 : decode cX4_show 102 = .ok (.bipush (-3), 2) := by decide +kernel
theorem dX4_show_104 : decode cX4_show 104 = .ok (.ireturn, 1) := by decide +kernel
theorem dX4_show_105 : decode cX4_show 105 = .ok (.aload_n 0, 1) := by decide +kernel
theorem dX4_show_106 : decode cX4_show 106 = .ok (.invokevirtual 145, 3) := by decide +kernel
theorem dX4_show_109 : decode cX4_show 109 = .ok (.aload_n 0, 1) := by decide +kernel
theorem dX4_show_110 : decode cX4_show 110 = .ok (.getfield 34, 3) := by decide +kernel
theorem dX4_show_113 : decode cX4_show 113 = .ok (.getfield 120, 3) := by decide +kernel
theorem dX4_show_116 : decode cX4_show 116 = .ok (.iload_n 1, 1) := by decide +kernel
theorem dX4_show_117 : decode cX4_show 117 = .ok (.dup2, 1) := by decide +kernel
theorem dX4_show_118 : decode cX4_show 118 = .ok (.iaload, 1) := by decide +kernel
theorem dX4_show_119 : decode cX4_show 119 = .ok (.iload 4, 2) := by decide +kernel
theorem dX4_show_121 : decode cX4_show 121 = .ok (.ior, 1) := by decide +kernel
theorem dX4_show_122 : decode cX4_show 122 = .ok (.iastore, 1) := by decide +kernel
theorem dX4_show_123 : decode cX4_show 123 = .ok (.aload_n 0, 1) := by decide +kernel
theorem dX4_show_124 : decode cX4_show 124 = .ok (.getfield 34, 3) := by decide +kernel
theorem dX4_show_127 : decode cX4_show 127 = .ok (.getfield 120, 3) := by decide +kernel
theorem dX4_show_130 : decode cX4_show 130 = .ok (.iload_n 1, 1) := by decide +kernel
theorem dX4_show_131 : decode cX4_show 131 = .ok (.iaload, 1) := by decide +kernel
theorem dX4_show_132 : decode cX4_show 132 = .ok (.invokestatic 152, 3) := by decide +kernel
theorem dX4_show_135 : decode cX4_show 135 = .ok (.ireturn, 1) := by decide +kernel
theorem dX4_sell_0 : decode cX4_sell 0 = .ok (.aload_n 0, 1) := by decide +kernel
theorem dX4_sell_1 : decode cX4_sell 1 = .ok (.iload_n 1, 1) := by decide +kernel
theorem dX4_sell_2 : decode cX4_sell 2 = .ok (.invokevirtual 113, 3) := by decide +kernel
theorem dX4_sell_5 : decode cX4_sell 5 = .ok (.ifCond .ne 5, 3) := by decide +kernel
theorem dX4_sell_8 : decode cX4_sell 8 = .ok (.iconst (-1), 1) := by decide +kernel
theorem dX4_sell_9 : decode cX4_sell 9 = .ok (.ireturn, 1) := by decide +kernel
theorem dX4_sell_10 : decode cX4_sell 10 = .ok (.aload_n 0, 1) := by decide +kernel
theorem dX4_sell_11 : decode cX4_sell 11 = .ok (.getfield 34, 3) := by decide +kernel
theorem dX4_sell_14 : decode cX4_sell 14 = .ok (.getfield 117, 3) := by decide +kernel
theorem dX4_sell_17 : decode cX4_sell 17 = .ok (.iload_n 1, 1) := by decide +kernel
theorem dX4_sell_18 : decode cX4_sell 18 = .ok (.iaload, 1) := by decide +kernel
theorem dX4_sell_19 : decode cX4_sell 19 = .ok (.istore_n 2, 1) := by decide +kernel
theorem dX4_sell_20 : decode cX4_sell 20 = .ok (.iload_n 2, 1) := by decide +kernel
theorem dX4_sell_21 : decode cX4_sell 21 = .ok (.iconst 3, 1) := by decide +kernel
theorem dX4_sell_22 : decode cX4_sell 22 = .ok (.if_icmp .ne 6, 3) := by decide +kernel
theorem dX4_sell_25 : decode cX4_sell 25 = .ok (.bipush (-3), 2) := by decide +kernel
theorem dX4_sell_27 : decode cX4_sell 27 = .ok (.ireturn, 1) := by decide +kernel
theorem dX4_sell_28 : decode cX4_sell 28 = .ok (.aload_n 0, 1) := by decide +kernel
theorem dX4_sell_29 : decode cX4_sell 29 = .ok (.invokevirtual 145, 3) := by decide +kernel
theorem dX4_sell_32 : decode cX4_sell 32 = .ok (.aload_n 0, 1) := by decide +kernel
theorem dX4_sell_33 : decode cX4_sell 33 = .ok (.getfield 34, 3) := by decide +kernel
theorem dX4_sell_36 : decode cX4_sell 36 = .ok (.getfield 117, 3) := by decide +kernel
theorem dX4_sell_39 : decode cX4_sell 39 = .ok (.iload_n 1, 1) := by decide +kernel
theorem dX4_sell_40 : decode cX4_sell 40 = .ok (.iconst 3, 1) := by decide +kernel
theorem dX4_sell_41 : decode cX4_sell 41 = .ok (.iastore, 1) := by decide +kernel
theorem dX4_sell_42 : decode cX4_sell 42 = .ok (.iload_n 2, 1) := by decide +kernel
theorem dX4_sell_43 : decode cX4_sell 43 = .ok (.ireturn, 1) := by decide +kernel
theorem dX4_forget_0 : decode cX4_forget 0 = .ok (.aload_n 0, 1) := by decide +kernel
theorem dX4_forget_1 : decode cX4_forget 1 = .ok (.iload_n 1, 1) := by decide +kernel
theorem dX4_forget_2 : decode cX4_forget 2 = .ok (.invokevirtual 113, 3) := by decide +kernel
theorem dX4_forget_5 : decode cX4_forget 5 = .ok (.ifCond .ne 5, 3) := by decide +kernel
theorem dX4_forget_8 : decode cX4_forget 8 = .ok (.iconst (-1), 1) := by decide +kernel
theorem dX4_forget_9 : decode cX4_forget 9 = .ok (.ireturn, 1) := by decide +kernel
theorem dX4_forget_10 : decode cX4_forget 10 = .ok (.aload_n 0, 1) := by decide +kernel
theorem dX4_forget_11 : decode cX4_forget 11 = .ok (.getfield 34, 3) := by decide +kernel
theorem dX4_forget_14 : decode cX4_forget 14 = .ok (.getfield 120, 3) := by decide +kernel
theorem dX4_forget_17 : decode cX4_forget 17 = .ok (.iload_n 1, 1) := by decide +kernel
theorem dX4_forget_18 : decode cX4_forget 18 = .ok (.iaload, 1) := by decide +kernel
theorem dX4_forget_19 : decode cX4_forget 19 = .ok (.istore_n 2, 1) := by decide +kernel
theorem dX4_forget_20 : decode cX4_forget 20 = .ok (.iload_n 2, 1) := by decide +kernel
theorem dX4_forget_21 : decode cX4_forget 21 = .ok (.ifCond .ne 6, 3) := by decide +kernel
theorem dX4_forget_24 : decode cX4_forget 24 = .ok (.bipush (-3), 2) := by decide +kernel
theorem dX4_forget_26 : decode cX4_forget 26 = .ok (.ireturn, 1) := by decide +kernel
theorem dX4_forget_27 : decode cX4_forget 27 = .ok (.aload_n 0, 1) := by decide +kernel
theorem dX4_forget_28 : decode cX4_forget 28 = .ok (.invokevirtual 145, 3) := by decide +kernel
theorem dX4_forget_31 : decode cX4_forget 31 = .ok (.aload_n 0, 1) := by decide +kernel
theorem dX4_forget_32 : decode cX4_forget 32 = .ok (.getfield 34, 3) := by decide +kernel
theorem dX4_forget_35 : decode cX4_forget 35 = .ok (.getfield 120, 3) := by decide +kernel
theorem dX4_forget_38 : decode cX4_forget 38 = .ok (.iload_n 1, 1) := by decide +kernel
theorem dX4_forget_39 : decode cX4_forget 39 = .ok (.iconst 0, 1) := by decide +kernel
theorem dX4_forget_40 : decode cX4_forget 40 = .ok (.iastore, 1) := by decide +kernel
theorem dX4_forget_41 : decode cX4_forget 41 = .ok (.iload_n 2, 1) := by decide +kernel
theorem dX4_forget_42 : decode cX4_forget 42 = .ok (.invokestatic 152, 3) := by decide +kernel
theorem dX4_forget_45 : decode cX4_forget 45 = .ok (.ireturn, 1) := by decide +kernel
theorem dX4_undo_0 : decode cX4_undo 0 = .ok (.aload_n 0, 1) := by decide +kernel
theorem dX4_undo_1 : decode cX4_undo 1 = .ok (.getfield 48, 3) := by decide +kernel
theorem dX4_undo_4 : decode cX4_undo 4 = .ok (.ifCond .ne 6, 3) := by decide +kernel
theorem dX4_undo_7 : decode cX4_undo 7 = .ok (.bipush (-3), 2) := by decide +kernel
theorem dX4_undo_9 : decode cX4_undo 9 = .ok (.ireturn, 1) := by decide +kernel
theorem dX4_undo_10 : decode cX4_undo 10 = .ok (.aload_n 0, 1) := by decide +kernel
theorem dX4_undo_11 : decode cX4_undo 11 = .ok (.dup, 1) := by decide +kernel
theorem dX4_undo_12 : decode cX4_undo 12 = .ok (.getfield 48, 3) := by decide +kernel
theorem dX4_undo_15 : decode cX4_undo 15 = .ok (.iconst 1, 1) := by decide +kernel
theorem dX4_undo_16 : decode cX4_undo 16 = .ok (.isub, 1) := by decide +kernel
theorem dX4_undo_17 : decode cX4_undo 17 = .ok (.putfield 48, 3) := by decide +kernel
theorem dX4_undo_20 : decode cX4_undo 20 = .ok (.aload_n 0, 1) := by decide +kernel
theorem dX4_undo_21 : decode cX4_undo 21 = .ok (.aload_n 0, 1) := by decide +kernel
theorem dX4_undo_22 : decode cX4_undo 22 = .ok (.getfield 48, 3) := by decide +kernel
theorem dX4_undo_25 : decode cX4_undo 25 = .ok (.invokevirtual 157, 3) := by decide +kernel
theorem dX4_undo_28 : decode cX4_undo 28 = .ok (.aload_n 0, 1) := by decide +kernel
theorem dX4_undo_29 : decode cX4_undo 29 = .ok (.getfield 34, 3) := by decide +kernel
theorem dX4_undo_32 : decode cX4_undo 32 = .ok (.invokestatic 161, 3) := by decide +kernel
theorem dX4_undo_35 : decode cX4_undo 35 = .ok (.aload_n 0, 1) := by decide +kernel
theorem dX4_undo_36 : decode cX4_undo 36 = .ok (.getfield 48, 3) := by decide +kernel
theorem dX4_undo_39 : decode cX4_undo 39 = .ok (.ireturn, 1) := by decide +kernel
theorem dX4_way_0 : decode cX4_way 0 = .ok (.aload_n 0, 1) := by decide +kernel
theorem dX4_way_1 : decode cX4_way 1 = .ok (.iload_n 1, 1) := by decide +kernel
theorem dX4_way_2 : decode cX4_way 2 = .ok (.invokevirtual 113, 3) := by decide +kernel
theorem dX4_way_5 : decode cX4_way 5 = .ok (.ifCond .eq 10, 3) := by decide +kernel
theorem dX4_way_8 : decode cX4_way 8 = .ok (.iload_n 2, 1) := by decide +kernel
theorem dX4_way_9 : decode cX4_way 9 = .ok (.invokestatic 165, 3) := by decide +kernel
theorem dX4_way_12 : decode cX4_way 12 = .ok (.ifCond .ne 5, 3) := by decide +kernel
theorem dX4_way_15 : decode cX4_way 15 = .ok (.iconst (-1), 1) := by decide +kernel
theorem dX4_way_16 : decode cX4_way 16 = .ok (.ireturn, 1) := by decide +kernel
theorem dX4_way_17 : decode cX4_way 17 = .ok (.iload_n 3, 1) := by decide +kernel
theorem dX4_way_18 : decode cX4_way 18 = .ok (.ifCond .eq 13, 3) := by decide +kernel
theorem dX4_way_21 : decode cX4_way 21 = .ok (.aload_n 0, 1) := by decide +kernel
theorem dX4_way_22 : decode cX4_way 22 = .ok (.getfield 19, 3) := by decide +kernel
theorem dX4_way_25 : decode cX4_way 25 = .ok (.invokevirtual 168, 3) := by decide +kernel
theorem dX4_way_28 : decode cX4_way 28 = .ok (.goto 12, 3) := by decide +kernel
theorem dX4_way_31 : decode cX4_way 31 = .ok (.aload_n 0, 1) := by decide +kernel
theorem dX4_way_32 : decode cX4_way 32 = .ok (.aload_n 0, 1) := by decide +kernel
theorem dX4_way_33 : decode cX4_way 33 = .ok (.getfield 34, 3) := by decide +kernel
theorem dX4_way_36 : decode cX4_way 36 = .ok (.iload_n 1, 1) := by decide +kernel
theorem dX4_way_37 : decode cX4_way 37 = .ok (.invokevirtual 123, 3) := by decide +kernel
theorem dX4_way_40 : decode cX4_way 40 = .ok (.istore 4, 2) := by decide +kernel
theorem dX4_way_42 : decode cX4_way 42 = .ok (.iconst 1, 1) := by decide +kernel
theorem dX4_way_43 : decode cX4_way 43 = .ok (.aload_n 0, 1) := by decide +kernel
theorem dX4_way_44 : decode cX4_way 44 = .ok (.getfield 34, 3) := by decide +kernel
theorem dX4_way_47 : decode cX4_way 47 = .ok (.getfield 116, 3) := by decide +kernel
theorem dX4_way_50 : decode cX4_way 50 = .ok (.iload_n 1, 1) := by decide +kernel
theorem dX4_way_51 : decode cX4_way 51 = .ok (.iaload, 1) := by decide +kernel
theorem dX4_way_52 : decode cX4_way 52 = .ok (.ishl, 1) := by decide +kernel
theorem dX4_way_53 : decode cX4_way 53 = .ok (.istore 5, 2) := by decide +kernel
theorem dX4_way_55 : decode cX4_way 55 = .ok (.iconst 0, 1) := by decide +kernel
theorem dX4_way_56 : decode cX4_way 56 = .ok (.istore 6, 2) := by decide +kernel
theorem dX4_way_58 : decode cX4_way 58 = .ok (.iload 6, 2) := by decide +kernel
theorem dX4_way_60 : decode cX4_way 60 = .ok (.bipush 12, 2) := by decide +kernel
theorem dX4_way_62 : decode cX4_way 62 = .ok (.if_icmp .gt 42, 3) := by decide +kernel
theorem dX4_way_65 : decode cX4_way 65 = .ok (.iload 5, 2) := by decide +kernel
theorem dX4_way_67 : decode cX4_way 67 = .ok (.iload_n 2, 1) := by decide +kernel
theorem dX4_way_68 : decode cX4_way 68 = .ok (.ishr, 1) := by decide +kernel
theorem dX4_way_69 : decode cX4_way 69 = .ok (.iconst 1, 1) := by decide +kernel
theorem dX4_way_70 : decode cX4_way 70 = .ok (.iand, 1) := by decide +kernel
theorem dX4_way_71 : decode cX4_way 71 = .ok (.ifCond .eq 6, 3) := by decide +kernel
theorem dX4_way_74 : decode cX4_way 74 = .ok (.iload 6, 2) := by decide +kernel
theorem dX4_way_76 : decode cX4_way 76 = .ok (.ireturn, 1) := by decide +kernel
theorem dX4_way_77 : decode cX4_way 77 = .ok (.aload_n 0, 1) := by decide +kernel
theorem dX4_way_78 : decode cX4_way 78 = .ok (.iload_n 1, 1) := by decide +kernel
theorem dX4_way_79 : decode cX4_way 79 = .ok (.iload 5, 2) := by decide +kernel
theorem dX4_way_81 : decode cX4_way 81 = .ok (.aload_n 0, 1) := by decide +kernel
theorem dX4_way_82 : decode cX4_way 82 = .ok (.getfield 34, 3) := by decide +kernel
theorem dX4_way_85 : decode cX4_way 85 = .ok (.getfield 86, 3) := by decide +kernel
theorem dX4_way_88 : decode cX4_way 88 = .ok (.iload 6, 2) := by decide +kernel
theorem dX4_way_90 : decode cX4_way 90 = .ok (.iadd, 1) := by decide +kernel
theorem dX4_way_91 : decode cX4_way 91 = .ok (.iload 4, 2) := by decide +kernel
theorem dX4_way_93 : decode cX4_way 93 = .ok (.invokevirtual 171, 3) := by decide +kernel
theorem dX4_way_96 : decode cX4_way 96 = .ok (.istore 5, 2) := by decide +kernel
theorem dX4_way_98 : decode cX4_way 98 = .ok (.iinc 6 1, 3) := by decide +kernel
theorem dX4_way_101 : decode cX4_way 101 = .ok (.goto (-43), 3) := by decide +kernel
theorem dX4_way_104 : decode cX4_way 104 = .ok (.bipush (-9), 2) := by decide +kernel
theorem dX4_way_106 : decode cX4_way 106 = .ok (.ireturn, 1) := by decide +kernel
theorem dX4_enclaves_0 : decode cX4_enclaves 0 = .ok (.aload_n 0, 1) := by decide +kernel
theorem dX4_enclaves_1 : decode cX4_enclaves 1 = .ok (.iload_n 1, 1) := by decide +kernel
theorem dX4_enclaves_2 : decode cX4_enclaves 2 = .ok (.invokevirtual 113, 3) := by decide +kernel
theorem dX4_enclaves_5 : decode cX4_enclaves 5 = .ok (.ifCond .ne 5, 3) := by decide +kernel
theorem dX4_enclaves_8 : decode cX4_enclaves 8 = .ok (.iconst (-1), 1) := by decide +kernel
theorem dX4_enclaves_9 : decode cX4_enclaves 9 = .ok (.ireturn, 1) := by decide +kernel
theorem dX4_enclaves_10 : decode cX4_enclaves 10 = .ok (.aload_n 0, 1) := by decide +kernel
theorem dX4_enclaves_11 : decode cX4_enclaves 11 = .ok (.aload_n 0, 1) := by decide +kernel
theorem dX4_enclaves_12 : decode cX4_enclaves 12 = .ok (.getfield 34, 3) := by decide +kernel
theorem dX4_enclaves_15 : decode cX4_enclaves 15 = .ok (.iload_n 1, 1) := by decide +kernel
theorem dX4_enclaves_16 : decode cX4_enclaves 16 = .ok (.invokevirtual 123, 3) := by decide +kernel
theorem dX4_enclaves_19 : decode cX4_enclaves 19 = .ok (.istore_n 2, 1) := by decide +kernel
theorem dX4_enclaves_20 : decode cX4_enclaves 20 = .ok (.iconst 1, 1) := by decide +kernel
theorem dX4_enclaves_21 : decode cX4_enclaves 21 = .ok (.aload_n 0, 1) := by decide +kernel
theorem dX4_enclaves_22 : decode cX4_enclaves 22 = .ok (.getfield 34, 3) := by decide +kernel
theorem dX4_enclaves_25 : decode cX4_enclaves 25 = .ok (.getfield 116, 3) := by decide +kernel
theorem dX4_enclaves_28 : decode cX4_enclaves 28 = .ok (.iload_n 1, 1) := by decide +kernel
theorem dX4_enclaves_29 : decode cX4_enclaves 29 = .ok (.iaload, 1) := by decide +kernel
theorem dX4_enclaves_30 : decode cX4_enclaves 30 = .ok (.ishl, 1) := by decide +kernel
theorem dX4_enclaves_31 : decode cX4_enclaves 31 = .ok (.istore_n 3, 1) := by decide +kernel
theorem dX4_enclaves_32 : decode cX4_enclaves 32 = .ok (.iconst 0, 1) := by decide +kernel
theorem dX4_enclaves_33 : decode cX4_enclaves 33 = .ok (.istore 4, 2) := by decide +kernel
theorem dX4_enclaves_35 : decode cX4_enclaves 35 = .ok (.iload 4, 2) := by decide +kernel
theorem dX4_enclaves_37 : decode cX4_enclaves 37 = .ok (.bipush 12, 2) := by decide +kernel
theorem dX4_enclaves_39 : decode cX4_enclaves 39 = .ok (.if_icmp .ge 27, 3) := by decide +kernel
theorem dX4_enclaves_42 : decode cX4_enclaves 42 = .ok (.aload_n 0, 1) := by decide +kernel
theorem dX4_enclaves_43 : decode cX4_enclaves 43 = .ok (.iload_n 1, 1) := by decide +kernel
theorem dX4_enclaves_44 : decode cX4_enclaves 44 = .ok (.iload_n 3, 1) := by decide +kernel
theorem dX4_enclaves_45 : decode cX4_enclaves 45 = .ok (.aload_n 0, 1) := by decide +kernel
theorem dX4_enclaves_46 : decode cX4_enclaves 46 = .ok (.getfield 34, 3) := by decide +kernel
theorem dX4_enclaves_49 : decode cX4_enclaves 49 = .ok (.getfield 86, 3) := by decide +kernel
theorem dX4_enclaves_52 : decode cX4_enclaves 52 = .ok (.iload 4, 2) := by decide +kernel
theorem dX4_enclaves_54 : decode cX4_enclaves 54 = .ok (.iadd, 1) := by decide +kernel
theorem dX4_enclaves_55 : decode cX4_enclaves 55 = .ok (.iload_n 2, 1) := by decide +kernel
theorem dX4_enclaves_56 : decode cX4_enclaves 56 = .ok (.invokevirtual 171, 3) := by decide +kernel
theorem dX4_enclaves_59 : decode cX4_enclaves 59 = .ok (.istore_n 3, 1) := by decide +kernel
theorem dX4_enclaves_60 : decode cX4_enclaves 60 = .ok (.iinc 4 1, 3) := by decide +kernel
theorem dX4_enclaves_63 : decode cX4_enclaves 63 = .ok (.goto (-28), 3) := by decide +kernel
theorem dX4_enclaves_66 : decode cX4_enclaves 66 = .ok (.iload_n 3, 1) := by decide +kernel
theorem dX4_enclaves_67 : decode cX4_enclaves 67 = .ok (.iconst (-1), 1) := by decide +kernel
theorem dX4_enclaves_68 : decode cX4_enclaves 68 = .ok (.ixor, 1) := by decide +kernel
theorem dX4_enclaves_69 : decode cX4_enclaves 69 = .ok (.sipush 1023, 3) := by decide +kernel
theorem dX4_enclaves_72 : decode cX4_enclaves 72 = .ok (.iand, 1) := by decide +kernel
theorem dX4_enclaves_73 : decode cX4_enclaves 73 = .ok (.ireturn, 1) := by decide +kernel
theorem dX4_teach_0 : decode cX4_teach 0 = .ok (.aload_n 0, 1) := by decide +kernel
theorem dX4_teach_1 : decode cX4_teach 1 = .ok (.iload_n 1, 1) := by decide +kernel
theorem dX4_teach_2 : decode cX4_teach 2 = .ok (.invokevirtual 113, 3) := by decide +kernel
theorem dX4_teach_5 : decode cX4_teach 5 = .ok (.ifCond .ne 5, 3) := by decide +kernel
theorem dX4_teach_8 : decode cX4_teach 8 = .ok (.iconst (-1), 1) := by decide +kernel
theorem dX4_teach_9 : decode cX4_teach 9 = .ok (.ireturn, 1) := by decide +kernel
theorem dX4_teach_10 : decode cX4_teach 10 = .ok (.aload_n 0, 1) := by decide +kernel
theorem dX4_teach_11 : decode cX4_teach 11 = .ok (.aload_n 0, 1) := by decide +kernel
theorem dX4_teach_12 : decode cX4_teach 12 = .ok (.getfield 34, 3) := by decide +kernel
theorem dX4_teach_15 : decode cX4_teach 15 = .ok (.iload_n 1, 1) := by decide +kernel
theorem dX4_teach_16 : decode cX4_teach 16 = .ok (.invokevirtual 123, 3) := by decide +kernel
theorem dX4_teach_19 : decode cX4_teach 19 = .ok (.istore_n 2, 1) := by decide +kernel
theorem dX4_teach_20 : decode cX4_teach 20 = .ok (.bipush (-9), 2) := by decide +kernel
theorem dX4_teach_22 : decode cX4_teach 22 = .ok (.istore_n 3, 1) := by decide +kernel
theorem dX4_teach_23 : decode cX4_teach 23 = .ok (.bipush 6, 2) := by decide +kernel
theorem dX4_teach_25 : decode cX4_teach 25 = .ok (.istore 4, 2) := by decide +kernel
theorem dX4_teach_27 : decode cX4_teach 27 = .ok (.iconst 0, 1) := by decide +kernel
theorem dX4_teach_28 : decode cX4_teach 28 = .ok (.istore 5, 2) := by decide +kernel
theorem dX4_teach_30 : decode cX4_teach 30 = .ok (.iload 5, 2) := by decide +kernel
theorem dX4_teach_32 : decode cX4_teach 32 = .ok (.aload_n 0, 1) := by decide +kernel
theorem dX4_teach_33 : decode cX4_teach 33 = .ok (.getfield 19, 3) := by decide +kernel
theorem dX4_teach_36 : decode cX4_teach 36 = .ok (.invokevirtual 168, 3) := by decide +kernel
theorem dX4_teach_39 : decode cX4_teach 39 = .ok (.if_icmp .gt 47, 3) := by decide +kernel
theorem dX4_teach_42 : decode cX4_teach 42 = .ok (.iload 5, 2) := by decide +kernel
theorem dX4_teach_44 : decode cX4_teach 44 = .ok (.invokestatic 152, 3) := by decide +kernel
theorem dX4_teach_47 : decode cX4_teach 47 = .ok (.istore 6, 2) := by decide +kernel
theorem dX4_teach_49 : decode cX4_teach 49 = .ok (.iload 5, 2) := by decide +kernel
theorem dX4_teach_51 : decode cX4_teach 51 = .ok (.iload_n 2, 1) := by decide +kernel
theorem dX4_teach_52 : decode cX4_teach 52 = .ok (.iand, 1) := by decide +kernel
theorem dX4_teach_53 : decode cX4_teach 53 = .ok (.ifCond .ne 27, 3) := by decide +kernel
theorem dX4_teach_56 : decode cX4_teach 56 = .ok (.iload 6, 2) := by decide +kernel
theorem dX4_teach_58 : decode cX4_teach 58 = .ok (.iload 4, 2) := by decide +kernel
theorem dX4_teach_60 : decode cX4_teach 60 = .ok (.if_icmp .ge 20, 3) := by decide +kernel
theorem dX4_teach_63 : decode cX4_teach 63 = .ok (.aload_n 0, 1) := by decide +kernel
theorem dX4_teach_64 : decode cX4_teach 64 = .ok (.iload_n 1, 1) := by decide +kernel
theorem dX4_teach_65 : decode cX4_teach 65 = .ok (.iload 5, 2) := by decide +kernel
theorem dX4_teach_67 : decode cX4_teach 67 = .ok (.invokevirtual 175, 3) := by decide +kernel
theorem dX4_teach_70 : decode cX4_teach 70 = .ok (.ifCond .eq 10, 3) := by decide +kernel
theorem dX4_teach_73 : decode cX4_teach 73 = .ok (.iload 5, 2) := by decide +kernel
theorem dX4_teach_75 : decode cX4_teach 75 = .ok (.istore_n 3, 1) := by decide +kernel
theorem dX4_teach_76 : decode cX4_teach 76 = .ok (.iload 6, 2) := by decide +kernel
theorem dX4_teach_78 : decode cX4_teach 78 = .ok (.istore 4, 2) := by decide +kernel
theorem dX4_teach_80 : decode cX4_teach 80 = .ok (.iinc 5 1, 3) := by decide +kernel
theorem dX4_teach_83 : decode cX4_teach 83 = .ok (.goto (-53), 3) := by decide +kernel
theorem dX4_teach_86 : decode cX4_teach 86 = .ok (.iload_n 3, 1) := by decide +kernel
theorem dX4_teach_87 : decode cX4_teach 87 = .ok (.ireturn, 1) := by decide +kernel
theorem dX4_differ_0 : decode cX4_differ 0 = .ok (.aload_n 0, 1) := by decide +kernel
theorem dX4_differ_1 : decode cX4_differ 1 = .ok (.iload_n 1, 1) := by decide +kernel
theorem dX4_differ_2 : decode cX4_differ 2 = .ok (.invokevirtual 113, 3) := by decide +kernel
theorem dX4_differ_5 : decode cX4_differ 5 = .ok (.ifCond .eq 11, 3) := by decide +kernel
theorem dX4_differ_8 : decode cX4_differ 8 = .ok (.aload_n 0, 1) := by decide +kernel
theorem dX4_differ_9 : decode cX4_differ 9 = .ok (.iload_n 2, 1) := by decide +kernel
theorem dX4_differ_10 : decode cX4_differ 10 = .ok (.invokevirtual 113, 3) := by decide +kernel
theorem dX4_differ_13 : decode cX4_differ 13 = .ok (.ifCond .ne 5, 3) := by decide +kernel
theorem dX4_differ_16 : decode cX4_differ 16 = .ok (.iconst (-1), 1) := by decide +kernel
theorem dX4_differ_17 : decode cX4_differ 17 = .ok (.ireturn, 1) := by decide +kernel
theorem dX4_differ_18 : decode cX4_differ 18 = .ok (.aload_n 0, 1) := by decide +kernel
theorem dX4_differ_19 : decode cX4_differ 19 = .ok (.aload_n 0, 1) := by decide +kernel
theorem dX4_differ_20 : decode cX4_differ 20 = .ok (.getfield 34, 3) := by decide +kernel
theorem dX4_differ_23 : decode cX4_differ 23 = .ok (.iload_n 1, 1) := by decide +kernel
theorem dX4_differ_24 : decode cX4_differ 24 = .ok (.invokevirtual 123, 3) := by decide +kernel
theorem dX4_differ_27 : decode cX4_differ 27 = .ok (.aload_n 0, 1) := by decide +kernel
theorem dX4_differ_28 : decode cX4_differ 28 = .ok (.aload_n 0, 1) := by decide +kernel
theorem dX4_differ_29 : decode cX4_differ 29 = .ok (.getfield 34, 3) := by decide +kernel
theorem dX4_differ_32 : decode cX4_differ 32 = .ok (.iload_n 2, 1) := by decide +kernel
theorem dX4_differ_33 : decode cX4_differ 33 = .ok (.invokevirtual 123, 3) := by decide +kernel
theorem dX4_differ_36 : decode cX4_differ 36 = .ok (.ixor, 1) := by decide +kernel
theorem dX4_differ_37 : decode cX4_differ 37 = .ok (.invokestatic 138, 3) := by decide +kernel
theorem dX4_differ_40 : decode cX4_differ 40 = .ok (.ireturn, 1) := by decide +kernel
theorem dX4_judge_0 : decode cX4_judge 0 = .ok (.iload_n 1, 1) := by decide +kernel
theorem dX4_judge_1 : decode cX4_judge 1 = .ok (.iconst 1, 1) := by decide +kernel
theorem dX4_judge_2 : decode cX4_judge 2 = .ok (.if_icmp .lt 12, 3) := by decide +kernel
theorem dX4_judge_5 : decode cX4_judge 5 = .ok (.iload_n 1, 1) := by decide +kernel
theorem dX4_judge_6 : decode cX4_judge 6 = .ok (.iconst 4, 1) := by decide +kernel
theorem dX4_judge_7 : decode cX4_judge 7 = .ok (.if_icmp .gt 7, 3) := by decide +kernel
theorem dX4_judge_10 : decode cX4_judge 10 = .ok (.iload_n 2, 1) := by decide +kernel
theorem dX4_judge_11 : decode cX4_judge 11 = .ok (.ifCond .ge 6, 3) := by decide +kernel
theorem dX4_judge_14 : decode cX4_judge 14 = .ok (.bipush (-2), 2) := by decide +kernel
theorem dX4_judge_16 : decode cX4_judge 16 = .ok (.ireturn, 1) := by decide +kernel
theorem dX4_judge_17 : decode cX4_judge 17 = .ok (.iconst 1, 1) := by decide +kernel
theorem dX4_judge_18 : decode cX4_judge 18 = .ok (.istore_n 3, 1) := by decide +kernel
theorem dX4_judge_19 : decode cX4_judge 19 = .ok (.iconst 1, 1) := by decide +kernel
theorem dX4_judge_20 : decode cX4_judge 20 = .ok (.istore 4, 2) := by decide +kernel
theorem dX4_judge_22 : decode cX4_judge 22 = .ok (.iload 4, 2) := by decide +kernel
theorem dX4_judge_24 : decode cX4_judge 24 = .ok (.iload_n 1, 1) := by decide +kernel
theorem dX4_judge_25 : decode cX4_judge 25 = .ok (.if_icmp .ge 14, 3) := by decide +kernel
theorem dX4_judge_28 : decode cX4_judge 28 = .ok (.iload_n 3, 1) := by decide +kernel
theorem dX4_judge_29 : decode cX4_judge 29 = .ok (.bipush 100, 2) := by decide +kernel
theorem dX4_judge_31 : decode cX4_judge 31 = .ok (.imul, 1) := by decide +kernel
theorem dX4_judge_32 : decode cX4_judge 32 = .ok (.istore_n 3, 1) := by decide +kernel
theorem dX4_judge_33 : decode cX4_judge 33 = .ok (.iinc 4 1, 3) := by decide +kernel
theorem dX4_judge_36 : decode cX4_judge 36 = .ok (.goto (-14), 3) := by decide +kernel
theorem dX4_judge_39 : decode cX4_judge 39 = .ok (.iload_n 3, 1) := by decide +kernel
theorem dX4_judge_40 : decode cX4_judge 40 = .ok (.ifCond .le 11, 3) := by decide +kernel
theorem dX4_judge_43 : decode cX4_judge 43 = .ok (.iload_n 2, 1) := by decide +kernel
theorem dX4_judge_44 : decode cX4_judge 44 = .ok (.iload_n 3, 1) := by decide +kernel
theorem dX4_judge_45 : decode cX4_judge 45 = .ok (.idiv, 1) := by decide +kernel
theorem dX4_judge_46 : decode cX4_judge 46 = .ok (.bipush 99, 2) := by decide +kernel
theorem dX4_judge_48 : decode cX4_judge 48 = .ok (.if_icmp .le 6, 3) := by decide +kernel
theorem dX4_judge_51 : decode cX4_judge 51 = .ok (.bipush (-2), 2) := by decide +kernel
theorem dX4_judge_53 : decode cX4_judge 53 = .ok (.ireturn, 1) := by decide +kernel
theorem dX4_judge_54 : decode cX4_judge 54 = .ok (.aload_n 0, 1) := by decide +kernel
theorem dX4_judge_55 : decode cX4_judge 55 = .ok (.getfield 34, 3) := by decide +kernel
theorem dX4_judge_58 : decode cX4_judge 58 = .ok (.aload_n 0, 1) := by decide +kernel
theorem dX4_judge_59 : decode cX4_judge 59 = .ok (.getfield 38, 3) := by decide +kernel
theorem dX4_judge_62 : decode cX4_judge 62 = .ok (.invokestatic 161, 3) := by decide +kernel
theorem dX4_judge_65 : decode cX4_judge 65 = .ok (.iconst 0, 1) := by decide +kernel
theorem dX4_judge_66 : decode cX4_judge 66 = .ok (.istore 4, 2) := by decide +kernel
theorem dX4_judge_68 : decode cX4_judge 68 = .ok (.iload 4, 2) := by decide +kernel
theorem dX4_judge_70 : decode cX4_judge 70 = .ok (.iload_n 1, 1) := by decide +kernel
theorem dX4_judge_71 : decode cX4_judge 71 = .ok (.if_icmp .ge 50, 3) := by decide +kernel
theorem dX4_judge_74 : decode cX4_judge 74 = .ok (.iload_n 3, 1) := by decide +kernel
theorem dX4_judge_75 : decode cX4_judge 75 = .ok (.ifCond .le 46, 3) := by decide +kernel
theorem dX4_judge_78 : decode cX4_judge 78 = .ok (.iload_n 2, 1) := by decide +kernel
theorem dX4_judge_79 : decode cX4_judge 79 = .ok (.iload_n 3, 1) := by decide +kernel
theorem dX4_judge_80 : decode cX4_judge 80 = .ok (.idiv, 1) := by decide +kernel
theorem dX4_judge_81 : decode cX4_judge 81 = .ok (.bipush 100, 2) := by decide +kernel
theorem dX4_judge_83 : decode cX4_judge 83 = .ok (.irem, 1) := by decide +kernel
theorem dX4_judge_84 : decode cX4_judge 84 = .ok (.istore 5, 2) := by decide +kernel
theorem dX4_judge_86 : decode cX4_judge 86 = .ok (.aload_n 0, 1) := by decide +kernel
theorem dX4_judge_87 : decode cX4_judge 87 = .ok (.aload_n 0, 1) := by decide +kernel
theorem dX4_judge_88 : decode cX4_judge 88 = .ok (.getfield 38, 3) := by decide +kernel
theorem dX4_judge_91 : decode cX4_judge 91 = .ok (.iload 5, 2) := by decide +kernel
theorem dX4_judge_93 : decode cX4_judge 93 = .ok (.bipush 10, 2) := by decide +kernel
theorem dX4_judge_95 : decode cX4_judge 95 = .ok (.idiv, 1) := by decide +kernel
theorem dX4_judge_96 : decode cX4_judge 96 = .ok (.iload 5, 2) := by decide +kernel
theorem dX4_judge_98 : decode cX4_judge 98 = .ok (.bipush 10, 2) := by decide +kernel
theorem dX4_judge_100 : decode cX4_judge 100 = .ok (.irem, 1) := by decide +kernel
theorem dX4_judge_101 : decode cX4_judge 101 = .ok (.invokevirtual 179, 3) := by decide +kernel
theorem dX4_judge_104 : decode cX4_judge 104 = .ok (.ifCond .ne 6, 3) := by decide +kernel
theorem dX4_judge_107 : decode cX4_judge 107 = .ok (.iload 4, 2) := by decide +kernel
theorem dX4_judge_109 : decode cX4_judge 109 = .ok (.ireturn, 1) := by decide +kernel
theorem dX4_judge_110 : decode cX4_judge 110 = .ok (.iload_n 3, 1) := by decide +kernel
theorem dX4_judge_111 : decode cX4_judge 111 = .ok (.bipush 100, 2) := by decide +kernel
theorem dX4_judge_113 : decode cX4_judge 113 = .ok (.idiv, 1) := by decide +kernel
theorem dX4_judge_114 : decode cX4_judge 114 = .ok (.istore_n 3, 1) := by decide +kernel
theorem dX4_judge_115 : decode cX4_judge 115 = .ok (.iinc 4 1, 3) := by decide +kernel
theorem dX4_judge_118 : decode cX4_judge 118 = .ok (.goto (-50), 3) := by decide +kernel
theorem dX4_judge_121 : decode cX4_judge 121 = .ok (.bipush (-9), 2) := by decide +kernel
theorem dX4_judge_123 : decode cX4_judge 123 = .ok (.ireturn, 1) := by decide +kernel
theorem dX4_share_0 : decode cX4_share 0 = .ok (.aload_n 0, 1) := by decide +kernel
theorem dX4_share_1 : decode cX4_share 1 = .ok (.iload_n 1, 1) := by decide +kernel
theorem dX4_share_2 : decode cX4_share 2 = .ok (.invokevirtual 97, 3) := by decide +kernel
theorem dX4_share_5 : decode cX4_share 5 = .ok (.ifCond .ne 5, 3) := by decide +kernel
theorem dX4_share_8 : decode cX4_share 8 = .ok (.iconst (-1), 1) := by decide +kernel
theorem dX4_share_9 : decode cX4_share 9 = .ok (.ireturn, 1) := by decide +kernel
theorem dX4_share_10 : decode cX4_share 10 = .ok (.iconst 0, 1) := by decide +kernel
theorem dX4_share_11 : decode cX4_share 11 = .ok (.istore_n 3, 1) := by decide +kernel
theorem dX4_share_12 : decode cX4_share 12 = .ok (.iconst 0, 1) := by decide +kernel
theorem dX4_share_13 : decode cX4_share 13 = .ok (.istore 4, 2) := by decide +kernel
theorem dX4_share_15 : decode cX4_share 15 = .ok (.iload 4, 2) := by decide +kernel
theorem dX4_share_17 : decode cX4_share 17 = .ok (.aload_n 0, 1) := by decide +kernel
theorem dX4_share_18 : decode cX4_share 18 = .ok (.getfield 27, 3) := by decide +kernel
theorem dX4_share_21 : decode cX4_share 21 = .ok (.if_icmp .ge 43, 3) := by decide +kernel
theorem dX4_share_24 : decode cX4_share 24 = .ok (.iconst 0, 1) := by decide +kernel
theorem dX4_share_25 : decode cX4_share 25 = .ok (.istore 5, 2) := by decide +kernel
theorem dX4_share_27 : decode cX4_share 27 = .ok (.iload 5, 2) := by decide +kernel
theorem dX4_share_29 : decode cX4_share 29 = .ok (.iconst 1, 1) := by decide +kernel
theorem dX4_share_30 : decode cX4_share 30 = .ok (.if_icmp .gt 28, 3) := by decide +kernel
theorem dX4_share_33 : decode cX4_share 33 = .ok (.iload_n 3, 1) := by decide +kernel
theorem dX4_share_34 : decode cX4_share 34 = .ok (.aload_n 0, 1) := by decide +kernel
theorem dX4_share_35 : decode cX4_share 35 = .ok (.aload_n 0, 1) := by decide +kernel
theorem dX4_share_36 : decode cX4_share 36 = .ok (.getfield 34, 3) := by decide +kernel
theorem dX4_share_39 : decode cX4_share 39 = .ok (.iload 4, 2) := by decide +kernel
theorem dX4_share_41 : decode cX4_share 41 = .ok (.iload 5, 2) := by decide +kernel
theorem dX4_share_43 : decode cX4_share 43 = .ok (.invokevirtual 131, 3) := by decide +kernel
theorem dX4_share_46 : decode cX4_share 46 = .ok (.iload_n 1, 1) := by decide +kernel
theorem dX4_share_47 : decode cX4_share 47 = .ok (.invokestatic 182, 3) := by decide +kernel
theorem dX4_share_50 : decode cX4_share 50 = .ok (.iadd, 1) := by decide +kernel
theorem dX4_share_51 : decode cX4_share 51 = .ok (.istore_n 3, 1) := by decide +kernel
theorem dX4_share_52 : decode cX4_share 52 = .ok (.iinc 5 1, 3) := by decide +kernel
theorem dX4_share_55 : decode cX4_share 55 = .ok (.goto (-28), 3) := by decide +kernel
theorem dX4_share_58 : decode cX4_share 58 = .ok (.iinc 4 1, 3) := by decide +kernel
theorem dX4_share_61 : decode cX4_share 61 = .ok (.goto (-46), 3) := by decide +kernel
theorem dX4_share_64 : decode cX4_share 64 = .ok (.iload_n 3, 1) := by decide +kernel
theorem dX4_share_65 : decode cX4_share 65 = .ok (.bipush 60, 2) := by decide +kernel
theorem dX4_share_67 : decode cX4_share 67 = .ok (.iload_n 2, 1) := by decide +kernel
theorem dX4_share_68 : decode cX4_share 68 = .ok (.invokestatic 185, 3) := by decide +kernel
theorem dX4_share_71 : decode cX4_share 71 = .ok (.ireturn, 1) := by decide +kernel
theorem dX4_see_0 : decode cX4_see 0 = .ok (.iload_n 1, 1) := by decide +kernel
theorem dX4_see_1 : decode cX4_see 1 = .ok (.invokestatic 165, 3) := by decide +kernel
theorem dX4_see_4 : decode cX4_see 4 = .ok (.ifCond .ne 5, 3) := by decide +kernel
theorem dX4_see_7 : decode cX4_see 7 = .ok (.iconst (-1), 1) := by decide +kernel
theorem dX4_see_8 : decode cX4_see 8 = .ok (.ireturn, 1) := by decide +kernel
theorem dX4_see_9 : decode cX4_see 9 = .ok (.iload_n 2, 1) := by decide +kernel
theorem dX4_see_10 : decode cX4_see 10 = .ok (.ifCond .lt 34, 3) := by decide +kernel
theorem dX4_see_13 : decode cX4_see 13 = .ok (.iload_n 2, 1) := by decide +kernel
theorem dX4_see_14 : decode cX4_see 14 = .ok (.iconst 4, 1) := by decide +kernel
theorem dX4_see_15 : decode cX4_see 15 = .ok (.if_icmp .ge 29, 3) := by decide +kernel
theorem dX4_see_18 : decode cX4_see 18 = .ok (.iload_n 3, 1) := by decide +kernel
theorem dX4_see_19 : decode cX4_see 19 = .ok (.ifCond .lt 25, 3) := by decide +kernel
theorem dX4_see_22 : decode cX4_see 22 = .ok (.iload_n 3, 1) := by decide +kernel
theorem dX4_see_23 : decode cX4_see 23 = .ok (.bipush 10, 2) := by decide +kernel
theorem dX4_see_25 : decode cX4_see 25 = .ok (.if_icmp .ge 19, 3) := by decide +kernel
theorem dX4_see_28 : decode cX4_see 28 = .ok (.iload 4, 2) := by decide +kernel
theorem dX4_see_30 : decode cX4_see 30 = .ok (.invokestatic 189, 3) := by decide +kernel
theorem dX4_see_33 : decode cX4_see 33 = .ok (.ifCond .eq 11, 3) := by decide +kernel
theorem dX4_see_36 : decode cX4_see 36 = .ok (.iload 5, 2) := by decide +kernel
theorem dX4_see_38 : decode cX4_see 38 = .ok (.invokestatic 189, 3) := by decide +kernel
theorem dX4_see_41 : decode cX4_see 41 = .ok (.ifCond .ne 6, 3) := by decide +kernel
theorem dX4_see_44 : decode cX4_see 44 = .ok (.bipush (-2), 2) := by decide +kernel
theorem dX4_see_46 : decode cX4_see 46 = .ok (.ireturn, 1) := by decide +kernel
theorem dX4_see_47 : decode cX4_see 47 = .ok (.aload_n 0, 1) := by decide +kernel
theorem dX4_see_48 : decode cX4_see 48 = .ok (.getfield 61, 3) := by decide +kernel
theorem dX4_see_51 : decode cX4_see 51 = .ok (.iload_n 1, 1) := by decide +kernel
theorem dX4_see_52 : decode cX4_see 52 = .ok (.iload_n 2, 1) := by decide +kernel
theorem dX4_see_53 : decode cX4_see 53 = .ok (.iload_n 3, 1) := by decide +kernel
theorem dX4_see_54 : decode cX4_see 54 = .ok (.iload 4, 2) := by decide +kernel
theorem dX4_see_56 : decode cX4_see 56 = .ok (.iload 5, 2) := by decide +kernel
theorem dX4_see_58 : decode cX4_see 58 = .ok (.invokevirtual 192, 3) := by decide +kernel
theorem dX4_see_61 : decode cX4_see 61 = .ok (.ifCond .eq 13, 3) := by decide +kernel
theorem dX4_see_64 : decode cX4_see 64 = .ok (.aload_n 0, 1) := by decide +kernel
theorem dX4_see_65 : decode cX4_see 65 = .ok (.getfield 61, 3) := by decide +kernel
theorem dX4_see_68 : decode cX4_see 68 = .ok (.getfield 96, 3) := by decide +kernel
theorem dX4_see_71 : decode cX4_see 71 = .ok (.goto 5, 3) := by decide +kernel
theorem dX4_see_74 : decode cX4_see 74 = .ok (.bipush (-4), 2) := by decide +kernel
theorem dX4_see_76 : decode cX4_see 76 = .ok (.ireturn, 1) := by decide +kernel
theorem dX4_unsee_0 : decode cX4_unsee 0 = .ok (.aload_n 0, 1) := by decide +kernel
theorem dX4_unsee_1 : decode cX4_unsee 1 = .ok (.getfield 61, 3) := by decide +kernel
theorem dX4_unsee_4 : decode cX4_unsee 4 = .ok (.getfield 96, 3) := by decide +kernel
theorem dX4_unsee_7 : decode cX4_unsee 7 = .ok (.istore_n 1, 1) := by decide +kernel
theorem dX4_unsee_8 : decode cX4_unsee 8 = .ok (.aload_n 0, 1) := by decide +kernel
theorem dX4_unsee_9 : decode cX4_unsee 9 = .ok (.getfield 61, 3) := by decide +kernel
theorem dX4_unsee_12 : decode cX4_unsee 12 = .ok (.iconst 0, 1) := by decide +kernel
theorem dX4_unsee_13 : decode cX4_unsee 13 = .ok (.putfield 96, 3) := by decide +kernel
theorem dX4_unsee_16 : decode cX4_unsee 16 = .ok (.iload_n 1, 1) := by decide +kernel
theorem dX4_unsee_17 : decode cX4_unsee 17 = .ok (.ireturn, 1) := by decide +kernel
theorem dX4_may_0 : decode cX4_may 0 = .ok (.iload_n 1, 1) := by decide +kernel
theorem dX4_may_1 : decode cX4_may 1 = .ok (.invokestatic 165, 3) := by decide +kernel
theorem dX4_may_4 : decode cX4_may 4 = .ok (.ifCond .ne 5, 3) := by decide +kernel
theorem dX4_may_7 : decode cX4_may 7 = .ok (.iconst (-1), 1) := by decide +kernel
theorem dX4_may_8 : decode cX4_may 8 = .ok (.ireturn, 1) := by decide +kernel
theorem dX4_may_9 : decode cX4_may 9 = .ok (.iload_n 2, 1) := by decide +kernel
theorem dX4_may_10 : decode cX4_may 10 = .ok (.invokestatic 189, 3) := by decide +kernel
theorem dX4_may_13 : decode cX4_may 13 = .ok (.ifCond .ne 6, 3) := by decide +kernel
theorem dX4_may_16 : decode cX4_may 16 = .ok (.bipush (-2), 2) := by decide +kernel
theorem dX4_may_18 : decode cX4_may 18 = .ok (.ireturn, 1) := by decide +kernel
theorem dX4_may_19 : decode cX4_may 19 = .ok (.iconst 0, 1) := by decide +kernel
theorem dX4_may_20 : decode cX4_may 20 = .ok (.istore_n 3, 1) := by decide +kernel
theorem dX4_may_21 : decode cX4_may 21 = .ok (.bipush (-9), 2) := by decide +kernel
theorem dX4_may_23 : decode cX4_may 23 = .ok (.istore 4, 2) := by decide +kernel
theorem dX4_may_25 : decode cX4_may 25 = .ok (.iconst 0, 1) := by decide +kernel
theorem dX4_may_26 : decode cX4_may 26 = .ok (.istore 5, 2) := by decide +kernel
theorem dX4_may_28 : decode cX4_may 28 = .ok (.iload 5, 2) := by decide +kernel
theorem dX4_may_30 : decode cX4_may 30 = .ok (.iconst 2, 1) := by decide +kernel
theorem dX4_may_31 : decode cX4_may 31 = .ok (.if_icmp .gt 62, 3) := by decide +kernel
theorem dX4_may_34 : decode cX4_may 34 = .ok (.iconst 0, 1) := by decide +kernel
theorem dX4_may_35 : decode cX4_may 35 = .ok (.istore 6, 2) := by decide +kernel
theorem dX4_may_37 : decode cX4_may 37 = .ok (.iload 6, 2) := by decide +kernel
theorem dX4_may_39 : decode cX4_may 39 = .ok (.bipush 10, 2) := by decide +kernel
theorem dX4_may_41 : decode cX4_may 41 = .ok (.if_icmp .ge 46, 3) := by decide +kernel
theorem dX4_may_44 : decode cX4_may 44 = .ok (.aload_n 0, 1) := by decide +kernel
theorem dX4_may_45 : decode cX4_may 45 = .ok (.getfield 61, 3) := by decide +kernel
theorem dX4_may_48 : decode cX4_may 48 = .ok (.iload_n 1, 1) := by decide +kernel
theorem dX4_may_49 : decode cX4_may 49 = .ok (.iload 5, 2) := by decide +kernel
theorem dX4_may_51 : decode cX4_may 51 = .ok (.iload 6, 2) := by decide +kernel
theorem dX4_may_53 : decode cX4_may 53 = .ok (.invokevirtual 196, 3) := by decide +kernel
theorem dX4_may_56 : decode cX4_may 56 = .ok (.ifCond .eq 25, 3) := by decide +kernel
theorem dX4_may_59 : decode cX4_may 59 = .ok (.iload_n 3, 1) := by decide +kernel
theorem dX4_may_60 : decode cX4_may 60 = .ok (.ifCond .ne 14, 3) := by decide +kernel
theorem dX4_may_63 : decode cX4_may 63 = .ok (.bipush 10, 2) := by decide +kernel
theorem dX4_may_65 : decode cX4_may 65 = .ok (.iload 5, 2) := by decide +kernel
theorem dX4_may_67 : decode cX4_may 67 = .ok (.imul, 1) := by decide +kernel
theorem dX4_may_68 : decode cX4_may 68 = .ok (.iload 6, 2) := by decide +kernel
theorem dX4_may_70 : decode cX4_may 70 = .ok (.iadd, 1) := by decide +kernel
theorem dX4_may_71 : decode cX4_may 71 = .ok (.goto 5, 3) := by decide +kernel
theorem dX4_may_74 : decode cX4_may 74 = .ok (.iload 4, 2) := by decide +kernel
theorem dX4_may_76 : decode cX4_may 76 = .ok (.istore 4, 2) := by decide +kernel
theorem dX4_may_78 : decode cX4_may 78 = .ok (.iinc 3 1, 3) := by decide +kernel
theorem dX4_may_81 : decode cX4_may 81 = .ok (.iinc 6 1, 3) := by decide +kernel
theorem dX4_may_84 : decode cX4_may 84 = .ok (.goto (-47), 3) := by decide +kernel
theorem dX4_may_87 : decode cX4_may 87 = .ok (.iinc 5 1, 3) := by decide +kernel
theorem dX4_may_90 : decode cX4_may 90 = .ok (.goto (-62), 3) := by decide +kernel
theorem dX4_may_93 : decode cX4_may 93 = .ok (.iload_n 2, 1) := by decide +kernel
theorem dX4_may_94 : decode cX4_may 94 = .ok (.ifCond .ne 7, 3) := by decide +kernel
theorem dX4_may_97 : decode cX4_may 97 = .ok (.iload_n 3, 1) := by decide +kernel
theorem dX4_may_98 : decode cX4_may 98 = .ok (.goto 5, 3) := by decide +kernel
theorem dX4_may_101 : decode cX4_may 101 = .ok (.iload 4, 2) := by decide +kernel
theorem dX4_may_103 : decode cX4_may 103 = .ok (.ireturn, 1) := by decide +kernel
theorem dX4_rests_0 : decode cX4_rests 0 = .ok (.iload_n 1, 1) := by decide +kernel
theorem dX4_rests_1 : decode cX4_rests 1 = .ok (.invokestatic 189, 3) := by decide +kernel
theorem dX4_rests_4 : decode cX4_rests 4 = .ok (.ifCond .ne 6, 3) := by decide +kernel
theorem dX4_rests_7 : decode cX4_rests 7 = .ok (.bipush (-2), 2) := by decide +kernel
theorem dX4_rests_9 : decode cX4_rests 9 = .ok (.ireturn, 1) := by decide +kernel
theorem dX4_rests_10 : decode cX4_rests 10 = .ok (.aload_n 0, 1) := by decide +kernel
theorem dX4_rests_11 : decode cX4_rests 11 = .ok (.invokevirtual 200, 3) := by decide +kernel
theorem dX4_rests_14 : decode cX4_rests 14 = .ok (.istore_n 2, 1) := by decide +kernel
theorem dX4_rests_15 : decode cX4_rests 15 = .ok (.iconst 0, 1) := by decide +kernel
theorem dX4_rests_16 : decode cX4_rests 16 = .ok (.istore_n 3, 1) := by decide +kernel
theorem dX4_rests_17 : decode cX4_rests 17 = .ok (.bipush (-9), 2) := by decide +kernel
theorem dX4_rests_19 : decode cX4_rests 19 = .ok (.istore 4, 2) := by decide +kernel
theorem dX4_rests_21 : decode cX4_rests 21 = .ok (.iconst 0, 1) := by decide +kernel
theorem dX4_rests_22 : decode cX4_rests 22 = .ok (.istore 5, 2) := by decide +kernel
theorem dX4_rests_24 : decode cX4_rests 24 = .ok (.iload 5, 2) := by decide +kernel
theorem dX4_rests_26 : decode cX4_rests 26 = .ok (.iconst 1, 1) := by decide +kernel
theorem dX4_rests_27 : decode cX4_rests 27 = .ok (.if_icmp .gt 68, 3) := by decide +kernel
theorem dX4_rests_30 : decode cX4_rests 30 = .ok (.iconst 0, 1) := by decide +kernel
theorem dX4_rests_31 : decode cX4_rests 31 = .ok (.istore 6, 2) := by decide +kernel
theorem dX4_rests_33 : decode cX4_rests 33 = .ok (.iload 6, 2) := by decide +kernel
theorem dX4_rests_35 : decode cX4_rests 35 = .ok (.iconst 1, 1) := by decide +kernel
theorem dX4_rests_36 : decode cX4_rests 36 = .ok (.if_icmp .gt 53, 3) := by decide +kernel
theorem dX4_rests_39 : decode cX4_rests 39 = .ok (.iload 5, 2) := by decide +kernel
theorem dX4_rests_41 : decode cX4_rests 41 = .ok (.iload 6, 2) := by decide +kernel
theorem dX4_rests_43 : decode cX4_rests 43 = .ok (.iload_n 2, 1) := by decide +kernel
theorem dX4_rests_44 : decode cX4_rests 44 = .ok (.invokestatic 203, 3) := by decide +kernel
theorem dX4_rests_47 : decode cX4_rests 47 = .ok (.ifCond .eq 36, 3) := by decide +kernel
theorem dX4_rests_50 : decode cX4_rests 50 = .ok (.iload 6, 2) := by decide +kernel
theorem dX4_rests_52 : decode cX4_rests 52 = .ok (.iload 5, 2) := by decide +kernel
theorem dX4_rests_54 : decode cX4_rests 54 = .ok (.iload_n 2, 1) := by decide +kernel
theorem dX4_rests_55 : decode cX4_rests 55 = .ok (.invokestatic 203, 3) := by decide +kernel
theorem dX4_rests_58 : decode cX4_rests 58 = .ok (.ifCond .eq 25, 3) := by decide +kernel
theorem dX4_rests_61 : decode cX4_rests 61 = .ok (.iload_n 3, 1) := by decide +kernel
theorem dX4_rests_62 : decode cX4_rests 62 = .ok (.ifCond .ne 14, 3) := by decide +kernel
theorem dX4_rests_65 : decode cX4_rests 65 = .ok (.bipush 10, 2) := by decide +kernel
theorem dX4_rests_67 : decode cX4_rests 67 = .ok (.iload 5, 2) := by decide +kernel
theorem dX4_rests_69 : decode cX4_rests 69 = .ok (.imul, 1) := by decide +kernel
theorem dX4_rests_70 : decode cX4_rests 70 = .ok (.iload 6, 2) := by decide +kernel
theorem dX4_rests_72 : decode cX4_rests 72 = .ok (.iadd, 1) := by decide +kernel
theorem dX4_rests_73 : decode cX4_rests 73 = .ok (.goto 5, 3) := by decide +kernel
theorem dX4_rests_76 : decode cX4_rests 76 = .ok (.iload 4, 2) := by decide +kernel
theorem dX4_rests_78 : decode cX4_rests 78 = .ok (.istore 4, 2) := by decide +kernel
theorem dX4_rests_80 : decode cX4_rests 80 = .ok (.iinc 3 1, 3) := by decide +kernel
theorem dX4_rests_83 : decode cX4_rests 83 = .ok (.iinc 6 1, 3) := by decide +kernel
theorem dX4_rests_86 : decode cX4_rests 86 = .ok (.goto (-53), 3) := by decide +kernel
theorem dX4_rests_89 : decode cX4_rests 89 = .ok (.iinc 5 1, 3) := by decide +kernel
theorem dX4_rests_92 : decode cX4_rests 92 = .ok (.goto (-68), 3) := by decide +kernel
theorem dX4_rests_95 : decode cX4_rests 95 = .ok (.iload_n 1, 1) := by decide +kernel
theorem dX4_rests_96 : decode cX4_rests 96 = .ok (.ifCond .ne 7, 3) := by decide +kernel
theorem dX4_rests_99 : decode cX4_rests 99 = .ok (.iload_n 3, 1) := by decide +kernel
theorem dX4_rests_100 : decode cX4_rests 100 = .ok (.goto 5, 3) := by decide +kernel
theorem dX4_rests_103 : decode cX4_rests 103 = .ok (.iload 4, 2) := by decide +kernel
theorem dX4_rests_105 : decode cX4_rests 105 = .ok (.ireturn, 1) := by decide +kernel
theorem dX4_forgets_0 : decode cX4_forgets 0 = .ok (.iload_n 1, 1) := by decide +kernel
theorem dX4_forgets_1 : decode cX4_forgets 1 = .ok (.invokestatic 189, 3) := by decide +kernel
theorem dX4_forgets_4 : decode cX4_forgets 4 = .ok (.ifCond .eq 22, 3) := by decide +kernel
theorem dX4_forgets_7 : decode cX4_forgets 7 = .ok (.iload_n 2, 1) := by decide +kernel
theorem dX4_forgets_8 : decode cX4_forgets 8 = .ok (.ifCond .lt 18, 3) := by decide +kernel
theorem dX4_forgets_11 : decode cX4_forgets 11 = .ok (.iload_n 2, 1) := by decide +kernel
theorem dX4_forgets_12 : decode cX4_forgets 12 = .ok (.iconst 5, 1) := by decide +kernel
theorem dX4_forgets_13 : decode cX4_forgets 13 = .ok (.if_icmp .gt 13, 3) := by decide +kernel
theorem dX4_forgets_16 : decode cX4_forgets 16 = .ok (.iload_n 3, 1) := by decide +kernel
theorem dX4_forgets_17 : decode cX4_forgets 17 = .ok (.ifCond .lt 9, 3) := by decide +kernel
theorem dX4_forgets_20 : decode cX4_forgets 20 = .ok (.iload_n 3, 1) := by decide +kernel
theorem dX4_forgets_21 : decode cX4_forgets 21 = .ok (.bipush 10, 2) := by decide +kernel
theorem dX4_forgets_23 : decode cX4_forgets 23 = .ok (.if_icmp .le 6, 3) := by decide +kernel
theorem dX4_forgets_26 : decode cX4_forgets 26 = .ok (.bipush (-2), 2) := by decide +kernel
theorem dX4_forgets_28 : decode cX4_forgets 28 = .ok (.ireturn, 1) := by decide +kernel
theorem dX4_forgets_29 : decode cX4_forgets 29 = .ok (.iconst 0, 1) := by decide +kernel
theorem dX4_forgets_30 : decode cX4_forgets 30 = .ok (.istore 5, 2) := by decide +kernel
theorem dX4_forgets_32 : decode cX4_forgets 32 = .ok (.iload 5, 2) := by decide +kernel
theorem dX4_forgets_34 : decode cX4_forgets 34 = .ok (.aload_n 0, 1) := by decide +kernel
theorem dX4_forgets_35 : decode cX4_forgets 35 = .ok (.getfield 65, 3) := by decide +kernel
theorem dX4_forgets_38 : decode cX4_forgets 38 = .ok (.arraylength, 1) := by decide +kernel
theorem dX4_forgets_39 : decode cX4_forgets 39 = .ok (.if_icmp .ge 26, 3) := by decide +kernel
theorem dX4_forgets_42 : decode cX4_forgets 42 = .ok (.aload_n 0, 1) := by decide +kernel
theorem dX4_forgets_43 : decode cX4_forgets 43 = .ok (.getfield 65, 3) := by decide +kernel
theorem dX4_forgets_46 : decode cX4_forgets 46 = .ok (.iload 5, 2) := by decide +kernel
theorem dX4_forgets_48 : decode cX4_forgets 48 = .ok (.iload 5, 2) := by decide +kernel
theorem dX4_forgets_50 : decode cX4_forgets 50 = .ok (.ifCond .ne 7, 3) := by decide +kernel
theorem dX4_forgets_53 : decode cX4_forgets 53 = .ok (.iconst 1, 1) := by decide +kernel
theorem dX4_forgets_54 : decode cX4_forgets 54 = .ok (.goto 4, 3) := by decide +kernel
theorem dX4_forgets_57 : decode cX4_forgets 57 = .ok (.iconst 0, 1) := by decide +kernel
theorem dX4_forgets_58 : decode cX4_forgets 58 = .ok (.iastore, 1) := by decide +kernel
theorem dX4_forgets_59 : decode cX4_forgets 59 = .ok (.iinc 5 1, 3) := by decide +kernel
theorem dX4_forgets_62 : decode cX4_forgets 62 = .ok (.goto (-30), 3) := by decide +kernel
theorem dX4_forgets_65 : decode cX4_forgets 65 = .ok (.iconst 1, 1) := by decide +kernel
theorem dX4_forgets_66 : decode cX4_forgets 66 = .ok (.istore 5, 2) := by decide +kernel
theorem dX4_forgets_68 : decode cX4_forgets 68 = .ok (.iconst 0, 1) := by decide +kernel
theorem dX4_forgets_69 : decode cX4_forgets 69 = .ok (.istore 6, 2) := by decide +kernel
theorem dX4_forgets_71 : decode cX4_forgets 71 = .ok (.iload 6, 2) := by decide +kernel
theorem dX4_forgets_73 : decode cX4_forgets 73 = .ok (.aload_n 0, 1) := by decide +kernel
theorem dX4_forgets_74 : decode cX4_forgets 74 = .ok (.getfield 27, 3) := by decide +kernel
theorem dX4_forgets_77 : decode cX4_forgets 77 = .ok (.if_icmp .ge 28, 3) := by decide +kernel
theorem dX4_forgets_80 : decode cX4_forgets 80 = .ok (.aload_n 0, 1) := by decide +kernel
theorem dX4_forgets_81 : decode cX4_forgets 81 = .ok (.aload_n 0, 1) := by decide +kernel
theorem dX4_forgets_82 : decode cX4_forgets 82 = .ok (.iload 6, 2) := by decide +kernel
theorem dX4_forgets_84 : decode cX4_forgets 84 = .ok (.iload_n 1, 1) := by decide +kernel
theorem dX4_forgets_85 : decode cX4_forgets 85 = .ok (.iload_n 3, 1) := by decide +kernel
theorem dX4_forgets_86 : decode cX4_forgets 86 = .ok (.invokevirtual 206, 3) := by decide +kernel
theorem dX4_forgets_89 : decode cX4_forgets 89 = .ok (.invokevirtual 210, 3) := by decide +kernel
theorem dX4_forgets_92 : decode cX4_forgets 92 = .ok (.iload 5, 2) := by decide +kernel
theorem dX4_forgets_94 : decode cX4_forgets 94 = .ok (.bipush 10, 2) := by decide +kernel
theorem dX4_forgets_96 : decode cX4_forgets 96 = .ok (.imul, 1) := by decide +kernel
theorem dX4_forgets_97 : decode cX4_forgets 97 = .ok (.istore 5, 2) := by decide +kernel
theorem dX4_forgets_99 : decode cX4_forgets 99 = .ok (.iinc 6 1, 3) := by decide +kernel
theorem dX4_forgets_102 : decode cX4_forgets 102 = .ok (.goto (-31), 3) := by decide +kernel
theorem dX4_forgets_105 : decode cX4_forgets 105 = .ok (.iconst 0, 1) := by decide +kernel
theorem dX4_forgets_106 : decode cX4_forgets 106 = .ok (.istore 6, 2) := by decide +kernel
theorem dX4_forgets_108 : decode cX4_forgets 108 = .ok (.iload_n 2, 1) := by decide +kernel
theorem dX4_forgets_109 : decode cX4_forgets 109 = .ok (.istore 7, 2) := by decide +kernel
theorem dX4_forgets_111 : decode cX4_forgets 111 = .ok (.iload 7, 2) := by decide +kernel
theorem dX4_forgets_113 : decode cX4_forgets 113 = .ok (.aload_n 0, 1) := by decide +kernel
theorem dX4_forgets_114 : decode cX4_forgets 114 = .ok (.getfield 65, 3) := by decide +kernel
theorem dX4_forgets_117 : decode cX4_forgets 117 = .ok (.arraylength, 1) := by decide +kernel
theorem dX4_forgets_118 : decode cX4_forgets 118 = .ok (.if_icmp .ge 21, 3) := by decide +kernel
theorem dX4_forgets_121 : decode cX4_forgets 121 = .ok (.iload 6, 2) := by decide +kernel
theorem dX4_forgets_123 : decode cX4_forgets 123 = .ok (.aload_n 0, 1) := by decide +kernel
theorem dX4_forgets_124 : decode cX4_forgets 124 = .ok (.getfield 65, 3) := by decide +kernel
theorem dX4_forgets_127 : decode cX4_forgets 127 = .ok (.iload 7, 2) := by decide +kernel
theorem dX4_forgets_129 : decode cX4_forgets 129 = .ok (.iaload, 1) := by decide +kernel
theorem dX4_forgets_130 : decode cX4_forgets 130 = .ok (.iadd, 1) := by decide +kernel
theorem dX4_forgets_131 : decode cX4_forgets 131 = .ok (.istore 6, 2) := by decide +kernel
theorem dX4_forgets_133 : decode cX4_forgets 133 = .ok (.iinc 7 1, 3) := by decide +kernel
theorem dX4_forgets_136 : decode cX4_forgets 136 = .ok (.goto (-25), 3) := by decide +kernel
theorem dX4_forgets_139 : decode cX4_forgets 139 = .ok (.iload 6, 2) := by decide +kernel
theorem dX4_forgets_141 : decode cX4_forgets 141 = .ok (.iload 5, 2) := by decide +kernel
theorem dX4_forgets_143 : decode cX4_forgets 143 = .ok (.iload 4, 2) := by decide +kernel
theorem dX4_forgets_145 : decode cX4_forgets 145 = .ok (.invokestatic 185, 3) := by decide +kernel
theorem dX4_forgets_148 : decode cX4_forgets 148 = .ok (.ireturn, 1) := by decide +kernel
theorem dX4_seed_0 : decode cX4_seed 0 = .ok (.aload_n 0, 1) := by decide +kernel
theorem dX4_seed_1 : decode cX4_seed 1 = .ok (.getfield 68, 3) := by decide +kernel
theorem dX4_seed_4 : decode cX4_seed 4 = .ok (.lstore_n 3, 1) := by decide +kernel
theorem dX4_seed_5 : decode cX4_seed 5 = .ok (.aload_n 0, 1) := by decide +kernel
theorem dX4_seed_6 : decode cX4_seed 6 = .ok (.lload_n 1, 1) := by decide +kernel
theorem dX4_seed_7 : decode cX4_seed 7 = .ok (.putfield 68, 3) := by decide +kernel
theorem dX4_seed_10 : decode cX4_seed 10 = .ok (.lload_n 3, 1) := by decide +kernel
theorem dX4_seed_11 : decode cX4_seed 11 = .ok (.lreturn, 1) := by decide +kernel
theorem dX4_years_0 : decode cX4_years 0 = .ok (.iload_n 1, 1) := by decide +kernel
theorem dX4_years_1 : decode cX4_years 1 = .ok (.iconst 1, 1) := by decide +kernel
theorem dX4_years_2 : decode cX4_years 2 = .ok (.if_icmp .lt 9, 3) := by decide +kernel
theorem dX4_years_5 : decode cX4_years 5 = .ok (.iload_n 1, 1) := by decide +kernel
theorem dX4_years_6 : decode cX4_years 6 = .ok (.bipush 30, 2) := by decide +kernel
theorem dX4_years_8 : decode cX4_years 8 = .ok (.if_icmp .le 6, 3) := by decide +kernel
theorem dX4_years_11 : decode cX4_years 11 = .ok (.bipush (-2), 2) := by decide +kernel
theorem dX4_years_13 : decode cX4_years 13 = .ok (.ireturn, 1) := by decide +kernel
theorem dX4_years_14 : decode cX4_years 14 = .ok (.aload_n 0, 1) := by decide +kernel
theorem dX4_years_15 : decode cX4_years 15 = .ok (.getfield 34, 3) := by decide +kernel
theorem dX4_years_18 : decode cX4_years 18 = .ok (.aload_n 0, 1) := by decide +kernel
theorem dX4_years_19 : decode cX4_years 19 = .ok (.getfield 38, 3) := by decide +kernel
theorem dX4_years_22 : decode cX4_years 22 = .ok (.invokestatic 161, 3) := by decide +kernel
theorem dX4_years_25 : decode cX4_years 25 = .ok (.iconst 0, 1) := by decide +kernel
theorem dX4_years_26 : decode cX4_years 26 = .ok (.istore_n 2, 1) := by decide +kernel
theorem dX4_years_27 : decode cX4_years 27 = .ok (.iload_n 2, 1) := by decide +kernel
theorem dX4_years_28 : decode cX4_years 28 = .ok (.iload_n 1, 1) := by decide +kernel
theorem dX4_years_29 : decode cX4_years 29 = .ok (.if_icmp .ge 52, 3) := by decide +kernel
theorem dX4_years_32 : decode cX4_years 32 = .ok (.aload_n 0, 1) := by decide +kernel
theorem dX4_years_33 : decode cX4_years 33 = .ok (.aload_n 0, 1) := by decide +kernel
theorem dX4_years_34 : decode cX4_years 34 = .ok (.getfield 68, 3) := by decide +kernel
theorem dX4_years_37 : decode cX4_years 37 = .ok (.ldc2_w 213, 3) := by decide +kernel
theorem dX4_years_40 : decode cX4_years 40 = .ok (.lmul, 1) := by decide +kernel
theorem dX4_years_41 : decode cX4_years 41 = .ok (.ldc2_w 215, 3) := by decide +kernel
theorem dX4_years_44 : decode cX4_years 44 = .ok (.ladd, 1) := by decide +kernel
theorem dX4_years_45 : decode cX4_years 45 = .ok (.putfield 68, 3) := by decide +kernel
theorem dX4_years_48 : decode cX4_years 48 = .ok (.aload_n 0, 1) := by decide +kernel
theorem dX4_years_49 : decode cX4_years 49 = .ok (.getfield 68, 3) := by decide +kernel
theorem dX4_years_52 : decode cX4_years 52 = .ok (.bipush 33, 2) := by decide +kernel
theorem dX4_years_54 : decode cX4_years 54 = .ok (.lushr, 1) := by decide +kernel
theorem dX4_years_55 : decode cX4_years 55 = .ok (.ldc2_w 217, 3) := by decide +kernel
theorem dX4_years_58 : decode cX4_years 58 = .ok (.lrem, 1) := by decide +kernel
theorem dX4_years_59 : decode cX4_years 59 = .ok (.l2i, 1) := by decide +kernel
theorem dX4_years_60 : decode cX4_years 60 = .ok (.istore_n 3, 1) := by decide +kernel
theorem dX4_years_61 : decode cX4_years 61 = .ok (.aload_n 0, 1) := by decide +kernel
theorem dX4_years_62 : decode cX4_years 62 = .ok (.aload_n 0, 1) := by decide +kernel
theorem dX4_years_63 : decode cX4_years 63 = .ok (.getfield 38, 3) := by decide +kernel
theorem dX4_years_66 : decode cX4_years 66 = .ok (.iload_n 3, 1) := by decide +kernel
theorem dX4_years_67 : decode cX4_years 67 = .ok (.iconst 2, 1) := by decide +kernel
theorem dX4_years_68 : decode cX4_years 68 = .ok (.idiv, 1) := by decide +kernel
theorem dX4_years_69 : decode cX4_years 69 = .ok (.iload_n 3, 1) := by decide +kernel
theorem dX4_years_70 : decode cX4_years 70 = .ok (.iconst 2, 1) := by decide +kernel
theorem dX4_years_71 : decode cX4_years 71 = .ok (.irem, 1) := by decide +kernel
theorem dX4_years_72 : decode cX4_years 72 = .ok (.invokevirtual 219, 3) := by decide +kernel
theorem dX4_years_75 : decode cX4_years 75 = .ok (.iinc 2 1, 3) := by decide +kernel
theorem dX4_years_78 : decode cX4_years 78 = .ok (.goto (-51), 3) := by decide +kernel
theorem dX4_years_81 : decode cX4_years 81 = .ok (.aload_n 0, 1) := by decide +kernel
theorem dX4_years_82 : decode cX4_years 82 = .ok (.getfield 38, 3) := by decide +kernel
theorem dX4_years_85 : decode cX4_years 85 = .ok (.getfield 89, 3) := by decide +kernel
theorem dX4_years_88 : decode cX4_years 88 = .ok (.aload_n 0, 1) := by decide +kernel
theorem dX4_years_89 : decode cX4_years 89 = .ok (.getfield 34, 3) := by decide +kernel
theorem dX4_years_92 : decode cX4_years 92 = .ok (.getfield 89, 3) := by decide +kernel
theorem dX4_years_95 : decode cX4_years 95 = .ok (.isub, 1) := by decide +kernel
theorem dX4_years_96 : decode cX4_years 96 = .ok (.ireturn, 1) := by decide +kernel
theorem dX4_keep_0 : decode cX4_keep 0 = .ok (.iload_n 1, 1) := by decide +kernel
theorem dX4_keep_1 : decode cX4_keep 1 = .ok (.invokestatic 222, 3) := by decide +kernel
theorem dX4_keep_4 : decode cX4_keep 4 = .ok (.ifCond .ne 5, 3) := by decide +kernel
theorem dX4_keep_7 : decode cX4_keep 7 = .ok (.iconst (-1), 1) := by decide +kernel
theorem dX4_keep_8 : decode cX4_keep 8 = .ok (.ireturn, 1) := by decide +kernel
theorem dX4_keep_9 : decode cX4_keep 9 = .ok (.aload_n 0, 1) := by decide +kernel
theorem dX4_keep_10 : decode cX4_keep 10 = .ok (.getfield 34, 3) := by decide +kernel
theorem dX4_keep_13 : decode cX4_keep 13 = .ok (.aload_n 0, 1) := by decide +kernel
theorem dX4_keep_14 : decode cX4_keep 14 = .ok (.getfield 51, 3) := by decide +kernel
theorem dX4_keep_17 : decode cX4_keep 17 = .ok (.iload_n 1, 1) := by decide +kernel
theorem dX4_keep_18 : decode cX4_keep 18 = .ok (.aaload, 1) := by decide +kernel
theorem dX4_keep_19 : decode cX4_keep 19 = .ok (.invokestatic 161, 3) := by decide +kernel
theorem dX4_keep_22 : decode cX4_keep 22 = .ok (.aload_n 0, 1) := by decide +kernel
theorem dX4_keep_23 : decode cX4_keep 23 = .ok (.getfield 54, 3) := by decide +kernel
theorem dX4_keep_26 : decode cX4_keep 26 = .ok (.iload_n 1, 1) := by decide +kernel
theorem dX4_keep_27 : decode cX4_keep 27 = .ok (.iconst 1, 1) := by decide +kernel
theorem dX4_keep_28 : decode cX4_keep 28 = .ok (.bastore, 1) := by decide +kernel
theorem dX4_keep_29 : decode cX4_keep 29 = .ok (.aload_n 0, 1) := by decide +kernel
theorem dX4_keep_30 : decode cX4_keep 30 = .ok (.getfield 34, 3) := by decide +kernel
theorem dX4_keep_33 : decode cX4_keep 33 = .ok (.getfield 86, 3) := by decide +kernel
theorem dX4_keep_36 : decode cX4_keep 36 = .ok (.ireturn, 1) := by decide +kernel
theorem dX4_again_0 : decode cX4_again 0 = .ok (.iload_n 1, 1) := by decide +kernel
theorem dX4_again_1 : decode cX4_again 1 = .ok (.invokestatic 222, 3) := by decide +kernel
theorem dX4_again_4 : decode cX4_again 4 = .ok (.ifCond .ne 5, 3) := by decide +kernel
theorem dX4_again_7 : decode cX4_again 7 = .ok (.iconst (-1), 1) := by decide +kernel
theorem dX4_again_8 : decode cX4_again 8 = .ok (.ireturn, 1) := by decide +kernel
theorem dX4_again_9 : decode cX4_again 9 = .ok (.aload_n 0, 1) := by decide +kernel
theorem dX4_again_10 : decode cX4_again 10 = .ok (.getfield 54, 3) := by decide +kernel
theorem dX4_again_13 : decode cX4_again 13 = .ok (.iload_n 1, 1) := by decide +kernel
theorem dX4_again_14 : decode cX4_again 14 = .ok (.baload, 1) := by decide +kernel
theorem dX4_again_15 : decode cX4_again 15 = .ok (.ifCond .ne 6, 3) := by decide +kernel
theorem dX4_again_18 : decode cX4_again 18 = .ok (.bipush (-3), 2) := by decide +kernel
theorem dX4_again_20 : decode cX4_again 20 = .ok (.ireturn, 1) := by decide +kernel
theorem dX4_again_21 : decode cX4_again 21 = .ok (.aload_n 0, 1) := by decide +kernel
theorem dX4_again_22 : decode cX4_again 22 = .ok (.getfield 51, 3) := by decide +kernel
theorem dX4_again_25 : decode cX4_again 25 = .ok (.iload_n 1, 1) := by decide +kernel
theorem dX4_again_26 : decode cX4_again 26 = .ok (.aaload, 1) := by decide +kernel
theorem dX4_again_27 : decode cX4_again 27 = .ok (.aload_n 0, 1) := by decide +kernel
theorem dX4_again_28 : decode cX4_again 28 = .ok (.getfield 34, 3) := by decide +kernel
theorem dX4_again_31 : decode cX4_again 31 = .ok (.invokestatic 161, 3) := by decide +kernel
theorem dX4_again_34 : decode cX4_again 34 = .ok (.aload_n 0, 1) := by decide +kernel
theorem dX4_again_35 : decode cX4_again 35 = .ok (.iconst 0, 1) := by decide +kernel
theorem dX4_again_36 : decode cX4_again 36 = .ok (.putfield 48, 3) := by decide +kernel
theorem dX4_again_39 : decode cX4_again 39 = .ok (.aload_n 0, 1) := by decide +kernel
theorem dX4_again_40 : decode cX4_again 40 = .ok (.getfield 34, 3) := by decide +kernel
theorem dX4_again_43 : decode cX4_again 43 = .ok (.getfield 86, 3) := by decide +kernel
theorem dX4_again_46 : decode cX4_again 46 = .ok (.ireturn, 1) := by decide +kernel
theorem dX4_isMule_0 : decode cX4_isMule 0 = .ok (.iload_n 1, 1) := by decide +kernel
theorem dX4_isMule_1 : decode cX4_isMule 1 = .ok (.ifCond .lt 20, 3) := by decide +kernel
theorem dX4_isMule_4 : decode cX4_isMule 4 = .ok (.iload_n 1, 1) := by decide +kernel
theorem dX4_isMule_5 : decode cX4_isMule 5 = .ok (.aload_n 0, 1) := by decide +kernel
theorem dX4_isMule_6 : decode cX4_isMule 6 = .ok (.getfield 27, 3) := by decide +kernel
theorem dX4_isMule_9 : decode cX4_isMule 9 = .ok (.if_icmp .ge 12, 3) := by decide +kernel
theorem dX4_isMule_12 : decode cX4_isMule 12 = .ok (.iload_n 1, 1) := by decide +kernel
theorem dX4_isMule_13 : decode cX4_isMule 13 = .ok (.iconst 5, 1) := by decide +kernel
theorem dX4_isMule_14 : decode cX4_isMule 14 = .ok (.if_icmp .ge 7, 3) := by decide +kernel
theorem dX4_isMule_17 : decode cX4_isMule 17 = .ok (.iconst 1, 1) := by decide +kernel
theorem dX4_isMule_18 : decode cX4_isMule 18 = .ok (.goto 4, 3) := by decide +kernel
theorem dX4_isMule_21 : decode cX4_isMule 21 = .ok (.iconst 0, 1) := by decide +kernel
theorem dX4_isMule_22 : decode cX4_isMule 22 = .ok (.ireturn, 1) := by decide +kernel
theorem dX4_isArticle_0 : decode cX4_isArticle 0 = .ok (.iload_n 1, 1) := by decide +kernel
theorem dX4_isArticle_1 : decode cX4_isArticle 1 = .ok (.ifCond .lt 23, 3) := by decide +kernel
theorem dX4_isArticle_4 : decode cX4_isArticle 4 = .ok (.iload_n 1, 1) := by decide +kernel
theorem dX4_isArticle_5 : decode cX4_isArticle 5 = .ok (.aload_n 0, 1) := by decide +kernel
theorem dX4_isArticle_6 : decode cX4_isArticle 6 = .ok (.getfield 19, 3) := by decide +kernel
theorem dX4_isArticle_9 : decode cX4_isArticle 9 = .ok (.getfield 83, 3) := by decide +kernel
theorem dX4_isArticle_12 : decode cX4_isArticle 12 = .ok (.if_icmp .ge 12, 3) := by decide +kernel
theorem dX4_isArticle_15 : decode cX4_isArticle 15 = .ok (.iload_n 1, 1) := by decide +kernel
theorem dX4_isArticle_16 : decode cX4_isArticle 16 = .ok (.iconst 5, 1) := by decide +kernel
theorem dX4_isArticle_17 : decode cX4_isArticle 17 = .ok (.if_icmp .ge 7, 3) := by decide +kernel
theorem dX4_isArticle_20 : decode cX4_isArticle 20 = .ok (.iconst 1, 1) := by decide +kernel
theorem dX4_isArticle_21 : decode cX4_isArticle 21 = .ok (.goto 4, 3) := by decide +kernel
theorem dX4_isArticle_24 : decode cX4_isArticle 24 = .ok (.iconst 0, 1) := by decide +kernel
theorem dX4_isArticle_25 : decode cX4_isArticle 25 = .ok (.ireturn, 1) := by decide +kernel
theorem dX4_isStone_0 : decode cX4_isStone 0 = .ok (.iload_n 0, 1) := by decide +kernel
theorem dX4_isStone_1 : decode cX4_isStone 1 = .ok (.ifCond .lt 13, 3) := by decide +kernel
theorem dX4_isStone_4 : decode cX4_isStone 4 = .ok (.iload_n 0, 1) := by decide +kernel
theorem dX4_isStone_5 : decode cX4_isStone 5 = .ok (.bipush 10, 2) := by decide +kernel
theorem dX4_isStone_7 : decode cX4_isStone 7 = .ok (.if_icmp .ge 7, 3) := by decide +kernel
theorem dX4_isStone_10 : decode cX4_isStone 10 = .ok (.iconst 1, 1) := by decide +kernel
theorem dX4_isStone_11 : decode cX4_isStone 11 = .ok (.goto 4, 3) := by decide +kernel
theorem dX4_isStone_14 : decode cX4_isStone 14 = .ok (.iconst 0, 1) := by decide +kernel
theorem dX4_isStone_15 : decode cX4_isStone 15 = .ok (.ireturn, 1) := by decide +kernel
theorem dX4_isSlot_0 : decode cX4_isSlot 0 = .ok (.iload_n 0, 1) := by decide +kernel
theorem dX4_isSlot_1 : decode cX4_isSlot 1 = .ok (.ifCond .lt 12, 3) := by decide +kernel
theorem dX4_isSlot_4 : decode cX4_isSlot 4 = .ok (.iload_n 0, 1) := by decide +kernel
theorem dX4_isSlot_5 : decode cX4_isSlot 5 = .ok (.iconst 2, 1) := by decide +kernel
theorem dX4_isSlot_6 : decode cX4_isSlot 6 = .ok (.if_icmp .ge 7, 3) := by decide +kernel
theorem dX4_isSlot_9 : decode cX4_isSlot 9 = .ok (.iconst 1, 1) := by decide +kernel
theorem dX4_isSlot_10 : decode cX4_isSlot 10 = .ok (.goto 4, 3) := by decide +kernel
theorem dX4_isSlot_13 : decode cX4_isSlot 13 = .ok (.iconst 0, 1) := by decide +kernel
theorem dX4_isSlot_14 : decode cX4_isSlot 14 = .ok (.ireturn, 1) := by decide +kernel
theorem dX4_isFlag_0 : decode cX4_isFlag 0 = .ok (.iload_n 0, 1) := by decide +kernel
theorem dX4_isFlag_1 : decode cX4_isFlag 1 = .ok (.ifCond .eq 8, 3) := by decide +kernel
theorem dX4_isFlag_4 : decode cX4_isFlag 4 = .ok (.iload_n 0, 1) := by decide +kernel
theorem dX4_isFlag_5 : decode cX4_isFlag 5 = .ok (.iconst 1, 1) := by decide +kernel
theorem dX4_isFlag_6 : decode cX4_isFlag 6 = .ok (.if_icmp .ne 7, 3) := by decide +kernel
theorem dX4_isFlag_9 : decode cX4_isFlag 9 = .ok (.iconst 1, 1) := by decide +kernel
theorem dX4_isFlag_10 : decode cX4_isFlag 10 = .ok (.goto 4, 3) := by decide +kernel
theorem dX4_isFlag_13 : decode cX4_isFlag 13 = .ok (.iconst 0, 1) := by decide +kernel
theorem dX4_isFlag_14 : decode cX4_isFlag 14 = .ok (.ireturn, 1) := by decide +kernel
theorem dX4_firstOf_0 : decode cX4_firstOf 0 = .ok (.iconst 0, 1) := by decide +kernel
theorem dX4_firstOf_1 : decode cX4_firstOf 1 = .ok (.istore_n 1, 1) := by decide +kernel
theorem dX4_firstOf_2 : decode cX4_firstOf 2 = .ok (.iload_n 1, 1) := by decide +kernel
theorem dX4_firstOf_3 : decode cX4_firstOf 3 = .ok (.iconst 5, 1) := by decide +kernel
theorem dX4_firstOf_4 : decode cX4_firstOf 4 = .ok (.if_icmp .ge 19, 3) := by decide +kernel
theorem dX4_firstOf_7 : decode cX4_firstOf 7 = .ok (.iload_n 0, 1) := by decide +kernel
theorem dX4_firstOf_8 : decode cX4_firstOf 8 = .ok (.iload_n 1, 1) := by decide +kernel
theorem dX4_firstOf_9 : decode cX4_firstOf 9 = .ok (.ishr, 1) := by decide +kernel
theorem dX4_firstOf_10 : decode cX4_firstOf 10 = .ok (.iconst 1, 1) := by decide +kernel
theorem dX4_firstOf_11 : decode cX4_firstOf 11 = .ok (.iand, 1) := by decide +kernel
theorem dX4_firstOf_12 : decode cX4_firstOf 12 = .ok (.ifCond .eq 5, 3) := by decide +kernel
theorem dX4_firstOf_15 : decode cX4_firstOf 15 = .ok (.iload_n 1, 1) := by decide +kernel
theorem dX4_firstOf_16 : decode cX4_firstOf 16 = .ok (.ireturn, 1) := by decide +kernel
theorem dX4_firstOf_17 : decode cX4_firstOf 17 = .ok (.iinc 1 1, 3) := by decide +kernel
theorem dX4_firstOf_20 : decode cX4_firstOf 20 = .ok (.goto (-18), 3) := by decide +kernel
theorem dX4_firstOf_23 : decode cX4_firstOf 23 = .ok (.bipush (-9), 2) := by decide +kernel
theorem dX4_firstOf_25 : decode cX4_firstOf 25 = .ok (.ireturn, 1) := by decide +kernel
theorem dX4_readPart_0 : decode cX4_readPart 0 = .ok (.aload_n 0, 1) := by decide +kernel
theorem dX4_readPart_1 : decode cX4_readPart 1 = .ok (.getfield 10, 3) := by decide +kernel
theorem dX4_readPart_4 : decode cX4_readPart 4 = .ok (.iload_n 1, 1) := by decide +kernel
theorem dX4_readPart_5 : decode cX4_readPart 5 = .ok (.iconst 1, 1) := by decide +kernel
theorem dX4_readPart_6 : decode cX4_readPart 6 = .ok (.iadd, 1) := by decide +kernel
theorem dX4_readPart_7 : decode cX4_readPart 7 = .ok (.invokevirtual 225, 3) := by decide +kernel
theorem dX4_readPart_10 : decode cX4_readPart 10 = .ok (.istore_n 2, 1) := by decide +kernel
theorem dX4_readPart_11 : decode cX4_readPart 11 = .ok (.aload_n 0, 1) := by decide +kernel
theorem dX4_readPart_12 : decode cX4_readPart 12 = .ok (.getfield 10, 3) := by decide +kernel
theorem dX4_readPart_15 : decode cX4_readPart 15 = .ok (.iload_n 1, 1) := by decide +kernel
theorem dX4_readPart_16 : decode cX4_readPart 16 = .ok (.iconst 2, 1) := by decide +kernel
theorem dX4_readPart_17 : decode cX4_readPart 17 = .ok (.iadd, 1) := by decide +kernel
theorem dX4_readPart_18 : decode cX4_readPart 18 = .ok (.invokevirtual 225, 3) := by decide +kernel
theorem dX4_readPart_21 : decode cX4_readPart 21 = .ok (.istore_n 3, 1) := by decide +kernel
theorem dX4_readPart_22 : decode cX4_readPart 22 = .ok (.aload_n 0, 1) := by decide +kernel
theorem dX4_readPart_23 : decode cX4_readPart 23 = .ok (.getfield 10, 3) := by decide +kernel
theorem dX4_readPart_26 : decode cX4_readPart 26 = .ok (.iload_n 1, 1) := by decide +kernel
theorem dX4_readPart_27 : decode cX4_readPart 27 = .ok (.iconst 3, 1) := by decide +kernel
theorem dX4_readPart_28 : decode cX4_readPart 28 = .ok (.iadd, 1) := by decide +kernel
theorem dX4_readPart_29 : decode cX4_readPart 29 = .ok (.invokevirtual 225, 3) := by decide +kernel
theorem dX4_readPart_32 : decode cX4_readPart 32 = .ok (.istore 4, 2) := by decide +kernel
theorem dX4_readPart_34 : decode cX4_readPart 34 = .ok (.aload_n 0, 1) := by decide +kernel
theorem dX4_readPart_35 : decode cX4_readPart 35 = .ok (.getfield 10, 3) := by decide +kernel
theorem dX4_readPart_38 : decode cX4_readPart 38 = .ok (.iload_n 1, 1) := by decide +kernel
theorem dX4_readPart_39 : decode cX4_readPart 39 = .ok (.invokevirtual 228, 3) := by decide +kernel
theorem dX4_readPart_42 : decode cX4_readPart 42 = .ok (.bipush 65, 2) := by decide +kernel
theorem dX4_readPart_44 : decode cX4_readPart 44 = .ok (.if_icmp .ne 17, 3) := by decide +kernel
theorem dX4_readPart_47 : decode cX4_readPart 47 = .ok (.aload_n 0, 1) := by decide +kernel
theorem dX4_readPart_48 : decode cX4_readPart 48 = .ok (.getfield 19, 3) := by decide +kernel
theorem dX4_readPart_51 : decode cX4_readPart 51 = .ok (.iload_n 2, 1) := by decide +kernel
theorem dX4_readPart_52 : decode cX4_readPart 52 = .ok (.iload_n 3, 1) := by decide +kernel
theorem dX4_readPart_53 : decode cX4_readPart 53 = .ok (.iload 4, 2) := by decide +kernel
theorem dX4_readPart_55 : decode cX4_readPart 55 = .ok (.invokevirtual 231, 3) := by decide +kernel
theorem dX4_readPart_58 : decode cX4_readPart 58 = .ok (.goto 71, 3) := by decide +kernel
theorem dX4_readPart_61 : decode cX4_readPart 61 = .ok (.aload_n 0, 1) := by decide +kernel
theorem dX4_readPart_62 : decode cX4_readPart 62 = .ok (.getfield 27, 3) := by decide +kernel
theorem dX4_readPart_65 : decode cX4_readPart 65 = .ok (.iconst 5, 1) := by decide +kernel
theorem dX4_readPart_66 : decode cX4_readPart 66 = .ok (.if_icmp .ge 63, 3) := by decide +kernel
theorem dX4_readPart_69 : decode cX4_readPart 69 = .ok (.aload_n 0, 1) := by decide +kernel
theorem dX4_readPart_70 : decode cX4_readPart 70 = .ok (.getfield 34, 3) := by decide +kernel
theorem dX4_readPart_73 : decode cX4_readPart 73 = .ok (.getfield 116, 3) := by decide +kernel
theorem dX4_readPart_76 : decode cX4_readPart 76 = .ok (.aload_n 0, 1) := by decide +kernel
theorem dX4_readPart_77 : decode cX4_readPart 77 = .ok (.getfield 27, 3) := by decide +kernel
theorem dX4_readPart_80 : decode cX4_readPart 80 = .ok (.iload_n 2, 1) := by decide +kernel
theorem dX4_readPart_81 : decode cX4_readPart 81 = .ok (.iastore, 1) := by decide +kernel
theorem dX4_readPart_82 : decode cX4_readPart 82 = .ok (.aload_n 0, 1) := by decide +kernel
theorem dX4_readPart_83 : decode cX4_readPart 83 = .ok (.getfield 34, 3) := by decide +kernel
theorem dX4_readPart_86 : decode cX4_readPart 86 = .ok (.getfield 117, 3) := by decide +kernel
theorem dX4_readPart_89 : decode cX4_readPart 89 = .ok (.aload_n 0, 1) := by decide +kernel
theorem dX4_readPart_90 : decode cX4_readPart 90 = .ok (.getfield 27, 3) := by decide +kernel
theorem dX4_readPart_93 : decode cX4_readPart 93 = .ok (.iload 4, 2) := by decide +kernel
theorem dX4_readPart_95 : decode cX4_readPart 95 = .ok (.iastore, 1) := by decide +kernel
theorem dX4_readPart_96 : decode cX4_readPart 96 = .ok (.aload_n 0, 1) := by decide +kernel
theorem dX4_readPart_97 : decode cX4_readPart 97 = .ok (.getfield 34, 3) := by decide +kernel
theorem dX4_readPart_100 : decode cX4_readPart 100 = .ok (.getfield 120, 3) := by decide +kernel
theorem dX4_readPart_103 : decode cX4_readPart 103 = .ok (.aload_n 0, 1) := by decide +kernel
theorem dX4_readPart_104 : decode cX4_readPart 104 = .ok (.getfield 27, 3) := by decide +kernel
theorem dX4_readPart_107 : decode cX4_readPart 107 = .ok (.iconst 0, 1) := by decide +kernel
theorem dX4_readPart_108 : decode cX4_readPart 108 = .ok (.iastore, 1) := by decide +kernel
theorem dX4_readPart_109 : decode cX4_readPart 109 = .ok (.aload_n 0, 1) := by decide +kernel
theorem dX4_readPart_110 : decode cX4_readPart 110 = .ok (.getfield 23, 3) := by decide +kernel
theorem dX4_readPart_113 : decode cX4_readPart 113 = .ok (.aload_n 0, 1) := by decide +kernel
theorem dX4_readPart_114 : decode cX4_readPart 114 = .ok (.getfield 27, 3) := by decide +kernel
theorem dX4_readPart_117 : decode cX4_readPart 117 = .ok (.iload_n 3, 1) := by decide +kernel
theorem dX4_readPart_118 : decode cX4_readPart 118 = .ok (.iastore, 1) := by decide +kernel
theorem dX4_readPart_119 : decode cX4_readPart 119 = .ok (.aload_n 0, 1) := by decide +kernel
theorem dX4_readPart_120 : decode cX4_readPart 120 = .ok (.dup, 1) := by decide +kernel
theorem dX4_readPart_121 : decode cX4_readPart 121 = .ok (.getfield 27, 3) := by decide +kernel
theorem dX4_readPart_124 : decode cX4_readPart 124 = .ok (.iconst 1, 1) := by decide +kernel
theorem dX4_readPart_125 : decode cX4_readPart 125 = .ok (.iadd, 1) := by decide +kernel
theorem dX4_readPart_126 : decode cX4_readPart 126 = .ok (.putfield 27, 3) := by decide +kernel
theorem dX4_readPart_129 : decode cX4_readPart 129 = .ok (.return_, 1) := by decide +kernel
theorem dX4_known_0 : decode cX4_known 0 = .ok (.aload_n 0, 1) := by decide +kernel
theorem dX4_known_1 : decode cX4_known 1 = .ok (.iload_n 2, 1) := by decide +kernel
theorem dX4_known_2 : decode cX4_known 2 = .ok (.invokevirtual 113, 3) := by decide +kernel
theorem dX4_known_5 : decode cX4_known 5 = .ok (.ifCond .eq 22, 3) := by decide +kernel
theorem dX4_known_8 : decode cX4_known 8 = .ok (.aload_n 0, 1) := by decide +kernel
theorem dX4_known_9 : decode cX4_known 9 = .ok (.aload_n 1, 1) := by decide +kernel
theorem dX4_known_10 : decode cX4_known 10 = .ok (.getfield 117, 3) := by decide +kernel
theorem dX4_known_13 : decode cX4_known 13 = .ok (.iload_n 2, 1) := by decide +kernel
theorem dX4_known_14 : decode cX4_known 14 = .ok (.iaload, 1) := by decide +kernel
theorem dX4_known_15 : decode cX4_known 15 = .ok (.aload_n 1, 1) := by decide +kernel
theorem dX4_known_16 : decode cX4_known 16 = .ok (.getfield 120, 3) := by decide +kernel
theorem dX4_known_19 : decode cX4_known 19 = .ok (.iload_n 2, 1) := by decide +kernel
theorem dX4_known_20 : decode cX4_known 20 = .ok (.iaload, 1) := by decide +kernel
theorem dX4_known_21 : decode cX4_known 21 = .ok (.invokevirtual 234, 3) := by decide +kernel
theorem dX4_known_24 : decode cX4_known 24 = .ok (.goto 4, 3) := by decide +kernel
theorem dX4_known_27 : decode cX4_known 27 = .ok (.iconst 0, 1) := by decide +kernel
theorem dX4_known_28 : decode cX4_known 28 = .ok (.ireturn, 1) := by decide +kernel
theorem dX4_knownIfShown_0 : decode cX4_knownIfShown 0 = .ok (.aload_n 0, 1) := by decide +kernel
theorem dX4_knownIfShown_1 : decode cX4_knownIfShown 1 = .ok (.getfield 19, 3) := by decide +kernel
theorem dX4_knownIfShown_4 : decode cX4_knownIfShown 4 = .ok (.invokevirtual 168, 3) := by decide +kernel
theorem dX4_knownIfShown_7 : decode cX4_knownIfShown 7 = .ok (.istore_n 3, 1) := by decide +kernel
theorem dX4_knownIfShown_8 : decode cX4_knownIfShown 8 = .ok (.iload_n 1, 1) := by decide +kernel
theorem dX4_knownIfShown_9 : decode cX4_knownIfShown 9 = .ok (.tableswitch 50 0 3 #[31, 38, 40, 42], 31) := by decide +kernel
theorem dX4_knownIfShown_40 : decode cX4_knownIfShown 40 = .ok (.iload_n 2, 1) := by decide +kernel
theorem dX4_knownIfShown_41 : decode cX4_knownIfShown 41 = .ok (.bipush 21, 2) := by decide +kernel
theorem dX4_knownIfShown_43 : decode cX4_knownIfShown 43 = .ok (.iload_n 3, 1) := by decide +kernel
theorem dX4_knownIfShown_44 : decode cX4_knownIfShown 44 = .ok (.iand, 1) := by decide +kernel
theorem dX4_knownIfShown_45 : decode cX4_knownIfShown 45 = .ok (.ior, 1) := by decide +kernel
theorem dX4_knownIfShown_46 : decode cX4_knownIfShown 46 = .ok (.ireturn, 1) := by decide +kernel
theorem dX4_knownIfShown_47 : decode cX4_knownIfShown 47 = .ok (.iload_n 3, 1) := by decide +kernel
theorem dX4_knownIfShown_48 : decode cX4_knownIfShown 48 = .ok (.ireturn, 1) := by decide +kernel
theorem dX4_knownIfShown_49 : decode cX4_knownIfShown 49 = .ok (.iload_n 2, 1) := by decide +kernel
theorem dX4_knownIfShown_50 : decode cX4_knownIfShown 50 = .ok (.ireturn, 1) := by decide +kernel
theorem dX4_knownIfShown_51 : decode cX4_knownIfShown 51 = .ok (.aload_n 0, 1) := by decide +kernel
theorem dX4_knownIfShown_52 : decode cX4_knownIfShown 52 = .ok (.getfield 19, 3) := by decide +kernel
theorem dX4_knownIfShown_55 : decode cX4_knownIfShown 55 = .ok (.invokevirtual 237, 3) := by decide +kernel
theorem dX4_knownIfShown_58 : decode cX4_knownIfShown 58 = .ok (.ireturn, 1) := by decide +kernel
theorem dX4_knownIfShown_59 : decode cX4_knownIfShown 59 = .ok (.iconst 0, 1) := by decide +kernel
theorem dX4_knownIfShown_60 : decode cX4_knownIfShown 60 = .ok (.ireturn, 1) := by decide +kernel
theorem dX4_mulesThatKnow_0 : decode cX4_mulesThatKnow 0 = .ok (.iconst 0, 1) := by decide +kernel
theorem dX4_mulesThatKnow_1 : decode cX4_mulesThatKnow 1 = .ok (.istore_n 2, 1) := by decide +kernel
theorem dX4_mulesThatKnow_2 : decode cX4_mulesThatKnow 2 = .ok (.iconst 0, 1) := by decide +kernel
theorem dX4_mulesThatKnow_3 : decode cX4_mulesThatKnow 3 = .ok (.istore_n 3, 1) := by decide +kernel
theorem dX4_mulesThatKnow_4 : decode cX4_mulesThatKnow 4 = .ok (.iload_n 3, 1) := by decide +kernel
theorem dX4_mulesThatKnow_5 : decode cX4_mulesThatKnow 5 = .ok (.aload_n 0, 1) := by decide +kernel
theorem dX4_mulesThatKnow_6 : decode cX4_mulesThatKnow 6 = .ok (.getfield 27, 3) := by decide +kernel
theorem dX4_mulesThatKnow_9 : decode cX4_mulesThatKnow 9 = .ok (.if_icmp .ge 31, 3) := by decide +kernel
theorem dX4_mulesThatKnow_12 : decode cX4_mulesThatKnow 12 = .ok (.aload_n 0, 1) := by decide +kernel
theorem dX4_mulesThatKnow_13 : decode cX4_mulesThatKnow 13 = .ok (.aload_n 0, 1) := by decide +kernel
theorem dX4_mulesThatKnow_14 : decode cX4_mulesThatKnow 14 = .ok (.getfield 34, 3) := by decide +kernel
theorem dX4_mulesThatKnow_17 : decode cX4_mulesThatKnow 17 = .ok (.iload_n 3, 1) := by decide +kernel
theorem dX4_mulesThatKnow_18 : decode cX4_mulesThatKnow 18 = .ok (.invokevirtual 123, 3) := by decide +kernel
theorem dX4_mulesThatKnow_21 : decode cX4_mulesThatKnow 21 = .ok (.iload_n 1, 1) := by decide +kernel
theorem dX4_mulesThatKnow_22 : decode cX4_mulesThatKnow 22 = .ok (.ishr, 1) := by decide +kernel
theorem dX4_mulesThatKnow_23 : decode cX4_mulesThatKnow 23 = .ok (.iconst 1, 1) := by decide +kernel
theorem dX4_mulesThatKnow_24 : decode cX4_mulesThatKnow 24 = .ok (.iand, 1) := by decide +kernel
theorem dX4_mulesThatKnow_25 : decode cX4_mulesThatKnow 25 = .ok (.ifCond .eq 9, 3) := by decide +kernel
theorem dX4_mulesThatKnow_28 : decode cX4_mulesThatKnow 28 = .ok (.iload_n 2, 1) := by decide +kernel

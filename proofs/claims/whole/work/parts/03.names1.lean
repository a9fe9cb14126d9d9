theorem dX0_init_0 : decode cX0_init 0 = .ok (.aload_n 0, 1) := by decide +kernel
theorem dX0_init_1 : decode cX0_init 1 = .ok (.invokespecial 3, 3) := by decide +kernel
theorem dX0_init_4 : decode cX0_init 4 = .ok (.aload_n 0, 1) := by decide +kernel
theorem dX0_init_5 : decode cX0_init 5 = .ok (.iconst 5, 1) := by decide +kernel
theorem dX0_init_6 : decode cX0_init 6 = .ok (.newarray .int, 2) := by decide +kernel
theorem dX0_init_8 : decode cX0_init 8 = .ok (.putfield 9, 3) := by decide +kernel
theorem dX0_init_11 : decode cX0_init 11 = .ok (.aload_n 0, 1) := by decide +kernel
theorem dX0_init_12 : decode cX0_init 12 = .ok (.iconst 5, 1) := by decide +kernel
theorem dX0_init_13 : decode cX0_init 13 = .ok (.newarray .int, 2) := by decide +kernel
theorem dX0_init_15 : decode cX0_init 15 = .ok (.putfield 15, 3) := by decide +kernel
theorem dX0_init_18 : decode cX0_init 18 = .ok (.aload_n 0, 1) := by decide +kernel
theorem dX0_init_19 : decode cX0_init 19 = .ok (.iconst 5, 1) := by decide +kernel
theorem dX0_init_20 : decode cX0_init 20 = .ok (.newarray .int, 2) := by decide +kernel
theorem dX0_init_22 : decode cX0_init 22 = .ok (.putfield 18, 3) := by decide +kernel
theorem dX0_init_25 : decode cX0_init 25 = .ok (.aload_n 0, 1) := by decide +kernel
theorem dX0_init_26 : decode cX0_init 26 = .ok (.iconst 0, 1) := by decide +kernel
theorem dX0_init_27 : decode cX0_init 27 = .ok (.putfield 21, 3) := by decide +kernel
theorem dX0_init_30 : decode cX0_init 30 = .ok (.return_, 1) := by decide +kernel
theorem dX0_add_0 : decode cX0_add 0 = .ok (.aload_n 0, 1) := by decide +kernel
theorem dX0_add_1 : decode cX0_add 1 = .ok (.getfield 21, 3) := by decide +kernel
theorem dX0_add_4 : decode cX0_add 4 = .ok (.ifCond .lt 11, 3) := by decide +kernel
theorem dX0_add_7 : decode cX0_add 7 = .ok (.aload_n 0, 1) := by decide +kernel
theorem dX0_add_8 : decode cX0_add 8 = .ok (.getfield 21, 3) := by decide +kernel
theorem dX0_add_11 : decode cX0_add 11 = .ok (.iconst 5, 1) := by decide +kernel
theorem dX0_add_12 : decode cX0_add 12 = .ok (.if_icmp .lt 4, 3) := by decide +kernel
theorem dX0_add_15 : decode cX0_add 15 = .ok (.return_, 1) := by decide +kernel
theorem dX0_add_16 : decode cX0_add 16 = .ok (.aload_n 0, 1) := by decide +kernel
theorem dX0_add_17 : decode cX0_add 17 = .ok (.getfield 9, 3) := by decide +kernel
theorem dX0_add_20 : decode cX0_add 20 = .ok (.aload_n 0, 1) := by decide +kernel
theorem dX0_add_21 : decode cX0_add 21 = .ok (.getfield 21, 3) := by decide +kernel
theorem dX0_add_24 : decode cX0_add 24 = .ok (.iload_n 1, 1) := by decide +kernel
theorem dX0_add_25 : decode cX0_add 25 = .ok (.iastore, 1) := by decide +kernel
theorem dX0_add_26 : decode cX0_add 26 = .ok (.aload_n 0, 1) := by decide +kernel
theorem dX0_add_27 : decode cX0_add 27 = .ok (.getfield 15, 3) := by decide +kernel
theorem dX0_add_30 : decode cX0_add 30 = .ok (.aload_n 0, 1) := by decide +kernel
theorem dX0_add_31 : decode cX0_add 31 = .ok (.getfield 21, 3) := by decide +kernel
theorem dX0_add_34 : decode cX0_add 34 = .ok (.iload_n 2, 1) := by decide +kernel
theorem dX0_add_35 : decode cX0_add 35 = .ok (.iastore, 1) := by decide +kernel
theorem dX0_add_36 : decode cX0_add 36 = .ok (.aload_n 0, 1) := by decide +kernel
theorem dX0_add_37 : decode cX0_add 37 = .ok (.getfield 18, 3) := by decide +kernel
theorem dX0_add_40 : decode cX0_add 40 = .ok (.aload_n 0, 1) := by decide +kernel
theorem dX0_add_41 : decode cX0_add 41 = .ok (.getfield 21, 3) := by decide +kernel
theorem dX0_add_44 : decode cX0_add 44 = .ok (.iload_n 3, 1) := by decide +kernel
theorem dX0_add_45 : decode cX0_add 45 = .ok (.iastore, 1) := by decide +kernel
theorem dX0_add_46 : decode cX0_add 46 = .ok (.aload_n 0, 1) := by decide +kernel
theorem dX0_add_47 : decode cX0_add 47 = .ok (.dup, 1) := by decide +kernel
theorem dX0_add_48 : decode cX0_add 48 = .ok (.getfield 21, 3) := by decide +kernel
theorem dX0_add_51 : decode cX0_add 51 = .ok (.iconst 1, 1) := by decide +kernel
theorem dX0_add_52 : decode cX0_add 52 = .ok (.iadd, 1) := by decide +kernel
theorem dX0_add_53 : decode cX0_add 53 = .ok (.putfield 21, 3) := by decide +kernel
theorem dX0_add_56 : decode cX0_add 56 = .ok (.return_, 1) := by decide +kernel
theorem dX0_all_0 : decode cX0_all 0 = .ok (.iconst 1, 1) := by decide +kernel
theorem dX0_all_1 : decode cX0_all 1 = .ok (.aload_n 0, 1) := by decide +kernel
theorem dX0_all_2 : decode cX0_all 2 = .ok (.getfield 21, 3) := by decide +kernel
theorem dX0_all_5 : decode cX0_all 5 = .ok (.ishl, 1) := by decide +kernel
theorem dX0_all_6 : decode cX0_all 6 = .ok (.iconst 1, 1) := by decide +kernel
theorem dX0_all_7 : decode cX0_all 7 = .ok (.isub, 1) := by decide +kernel
theorem dX0_all_8 : decode cX0_all 8 = .ok (.ireturn, 1) := by decide +kernel
theorem dX0_last_0 : decode cX0_last 0 = .ok (.aload_n 0, 1) := by decide +kernel
theorem dX0_last_1 : decode cX0_last 1 = .ok (.getfield 21, 3) := by decide +kernel
theorem dX0_last_4 : decode cX0_last 4 = .ok (.ifCond .le 14, 3) := by decide +kernel
theorem dX0_last_7 : decode cX0_last 7 = .ok (.iconst 1, 1) := by decide +kernel
theorem dX0_last_8 : decode cX0_last 8 = .ok (.aload_n 0, 1) := by decide +kernel
theorem dX0_last_9 : decode cX0_last 9 = .ok (.getfield 21, 3) := by decide +kernel
theorem dX0_last_12 : decode cX0_last 12 = .ok (.iconst 1, 1) := by decide +kernel
theorem dX0_last_13 : decode cX0_last 13 = .ok (.isub, 1) := by decide +kernel
theorem dX0_last_14 : decode cX0_last 14 = .ok (.ishl, 1) := by decide +kernel
theorem dX0_last_15 : decode cX0_last 15 = .ok (.goto 4, 3) := by decide +kernel
theorem dX0_last_18 : decode cX0_last 18 = .ok (.iconst 0, 1) := by decide +kernel
theorem dX0_last_19 : decode cX0_last 19 = .ok (.ireturn, 1) := by decide +kernel
set_option maxRecDepth 20000 in
theorem ggX0_forbids_X0_forbidsAlone : GoodIn wsX0_forbids wsX0_forbidsAlone := goodIn_r _ [8] (by decide +kernel) (by decide +kernel)
set_option maxRecDepth 20000 in
theorem gX0_forbids_X0_forbidsAlone : GoodIn wsX0_forbids (va_wsS RX0 25 yX0_forbidsAlone wsX0_forbidsAlone) := goodIn_app (goodIn_of _ (by decide +kernel)) ggX0_forbids_X0_forbidsAlone
theorem dX0_forbids_0 : decode cX0_forbids 0 = .ok (.iload_n 1, 1) := by decide +kernel
theorem dX0_forbids_1 : decode cX0_forbids 1 = .ok (.ifCond .lt 26, 3) := by decide +kernel
theorem dX0_forbids_4 : decode cX0_forbids 4 = .ok (.iload_n 1, 1) := by decide +kernel
theorem dX0_forbids_5 : decode cX0_forbids 5 = .ok (.aload_n 0, 1) := by decide +kernel
theorem dX0_forbids_6 : decode cX0_forbids 6 = .ok (.getfield 21, 3) := by decide +kernel
theorem dX0_forbids_9 : decode cX0_forbids 9 = .ok (.if_icmp .ge 18, 3) := by decide +kernel
theorem dX0_forbids_12 : decode cX0_forbids 12 = .ok (.iload_n 1, 1) := by decide +kernel
theorem dX0_forbids_13 : decode cX0_forbids 13 = .ok (.iconst 5, 1) := by decide +kernel
theorem dX0_forbids_14 : decode cX0_forbids 14 = .ok (.if_icmp .ge 13, 3) := by decide +kernel
theorem dX0_forbids_17 : decode cX0_forbids 17 = .ok (.aload_n 0, 1) := by decide +kernel
theorem dX0_forbids_18 : decode cX0_forbids 18 = .ok (.getfield 9, 3) := by decide +kernel
theorem dX0_forbids_21 : decode cX0_forbids 21 = .ok (.iload_n 1, 1) := by decide +kernel
theorem dX0_forbids_22 : decode cX0_forbids 22 = .ok (.iaload, 1) := by decide +kernel
theorem dX0_forbids_23 : decode cX0_forbids 23 = .ok (.iload_n 2, 1) := by decide +kernel
theorem dX0_forbids_24 : decode cX0_forbids 24 = .ok (.if_icmp .eq 5, 3) := by decide +kernel
theorem dX0_forbids_27 : decode cX0_forbids 27 = .ok (.iconst 0, 1) := by decide +kernel
theorem dX0_forbids_28 : decode cX0_forbids 28 = .ok (.ireturn, 1) := by decide +kernel
theorem dX0_forbids_29 : decode cX0_forbids 29 = .ok (.aload_n 0, 1) := by decide +kernel
theorem dX0_forbids_30 : decode cX0_forbids 30 = .ok (.getfield 15, 3) := by decide +kernel
theorem dX0_forbids_33 : decode cX0_forbids 33 = .ok (.iload_n 1, 1) := by decide +kernel
theorem dX0_forbids_34 : decode cX0_forbids 34 = .ok (.iaload, 1) := by decide +kernel
theorem dX0_forbids_35 : decode cX0_forbids 35 = .ok (.iconst 3, 1) := by decide +kernel
theorem dX0_forbids_36 : decode cX0_forbids 36 = .ok (.if_icmp .ne 22, 3) := by decide +kernel
theorem dX0_forbids_39 : decode cX0_forbids 39 = .ok (.iload 6, 2) := by decide +kernel
theorem dX0_forbids_41 : decode cX0_forbids 41 = .ok (.aload_n 0, 1) := by decide +kernel
theorem dX0_forbids_42 : decode cX0_forbids 42 = .ok (.getfield 18, 3) := by decide +kernel
theorem dX0_forbids_45 : decode cX0_forbids 45 = .ok (.iload_n 1, 1) := by decide +kernel
theorem dX0_forbids_46 : decode cX0_forbids 46 = .ok (.iaload, 1) := by decide +kernel
theorem dX0_forbids_47 : decode cX0_forbids 47 = .ok (.iconst 5, 1) := by decide +kernel
theorem dX0_forbids_48 : decode cX0_forbids 48 = .ok (.irem, 1) := by decide +kernel
theorem dX0_forbids_49 : decode cX0_forbids 49 = .ok (.if_icmp .ge 7, 3) := by decide +kernel
theorem dX0_forbids_52 : decode cX0_forbids 52 = .ok (.iconst 1, 1) := by decide +kernel
theorem dX0_forbids_53 : decode cX0_forbids 53 = .ok (.goto 4, 3) := by decide +kernel
theorem dX0_forbids_56 : decode cX0_forbids 56 = .ok (.iconst 0, 1) := by decide +kernel
theorem dX0_forbids_57 : decode cX0_forbids 57 = .ok (.ireturn, 1) := by decide +kernel
theorem dX0_forbids_58 : decode cX0_forbids 58 = .ok (.aload_n 0, 1) := by decide +kernel
theorem dX0_forbids_59 : decode cX0_forbids 59 = .ok (.getfield 15, 3) := by decide +kernel
theorem dX0_forbids_62 : decode cX0_forbids 62 = .ok (.iload_n 1, 1) := by decide +kernel
theorem dX0_forbids_63 : decode cX0_forbids 63 = .ok (.iaload, 1) := by decide +kernel
theorem dX0_forbids_64 : decode cX0_forbids 64 = .ok (.aload_n 0, 1) := by decide +kernel
theorem dX0_forbids_65 : decode cX0_forbids 65 = .ok (.getfield 18, 3) := by decide +kernel
theorem dX0_forbids_68 : decode cX0_forbids 68 = .ok (.iload_n 1, 1) := by decide +kernel
theorem dX0_forbids_69 : decode cX0_forbids 69 = .ok (.iaload, 1) := by decide +kernel
theorem dX0_forbids_70 : decode cX0_forbids 70 = .ok (.iload_n 3, 1) := by decide +kernel
theorem dX0_forbids_71 : decode cX0_forbids 71 = .ok (.iload 4, 2) := by decide +kernel
theorem dX0_forbids_73 : decode cX0_forbids 73 = .ok (.iload 5, 2) := by decide +kernel
theorem dX0_forbids_75 : decode cX0_forbids 75 = .ok (.invokestatic 25, 3) := by decide +kernel
theorem dX0_forbids_78 : decode cX0_forbids 78 = .ok (.ireturn, 1) := by decide +kernel
theorem dX0_forbidsAlone_0 : decode cX0_forbidsAlone 0 = .ok (.iload_n 0, 1) := by decide +kernel
theorem dX0_forbidsAlone_1 : decode cX0_forbidsAlone 1 = .ok (.tableswitch 65 0 2 #[27, 40, 51], 27) := by decide +kernel
theorem dX0_forbidsAlone_28 : decode cX0_forbidsAlone 28 = .ok (.iload_n 2, 1) := by decide +kernel
theorem dX0_forbidsAlone_29 : decode cX0_forbidsAlone 29 = .ok (.iload_n 1, 1) := by decide +kernel
theorem dX0_forbidsAlone_30 : decode cX0_forbidsAlone 30 = .ok (.iconst 4, 1) := by decide +kernel
theorem dX0_forbidsAlone_31 : decode cX0_forbidsAlone 31 = .ok (.irem, 1) := by decide +kernel
theorem dX0_forbidsAlone_32 : decode cX0_forbidsAlone 32 = .ok (.if_icmp .ne 7, 3) := by decide +kernel
theorem dX0_forbidsAlone_35 : decode cX0_forbidsAlone 35 = .ok (.iconst 1, 1) := by decide +kernel
theorem dX0_forbidsAlone_36 : decode cX0_forbidsAlone 36 = .ok (.goto 4, 3) := by decide +kernel
theorem dX0_forbidsAlone_39 : decode cX0_forbidsAlone 39 = .ok (.iconst 0, 1) := by decide +kernel
theorem dX0_forbidsAlone_40 : decode cX0_forbidsAlone 40 = .ok (.ireturn, 1) := by decide +kernel
theorem dX0_forbidsAlone_41 : decode cX0_forbidsAlone 41 = .ok (.iload_n 3, 1) := by decide +kernel
theorem dX0_forbidsAlone_42 : decode cX0_forbidsAlone 42 = .ok (.iload_n 1, 1) := by decide +kernel
theorem dX0_forbidsAlone_43 : decode cX0_forbidsAlone 43 = .ok (.if_icmp .ge 7, 3) := by decide +kernel
theorem dX0_forbidsAlone_46 : decode cX0_forbidsAlone 46 = .ok (.iconst 1, 1) := by decide +kernel
theorem dX0_forbidsAlone_47 : decode cX0_forbidsAlone 47 = .ok (.goto 4, 3) := by decide +kernel
theorem dX0_forbidsAlone_50 : decode cX0_forbidsAlone 50 = .ok (.iconst 0, 1) := by decide +kernel
theorem dX0_forbidsAlone_51 : decode cX0_forbidsAlone 51 = .ok (.ireturn, 1) := by decide +kernel
theorem dX0_forbidsAlone_52 : decode cX0_forbidsAlone 52 = .ok (.iload 4, 2) := by decide +kernel
theorem dX0_forbidsAlone_54 : decode cX0_forbidsAlone 54 = .ok (.iload_n 1, 1) := by decide +kernel
theorem dX0_forbidsAlone_55 : decode cX0_forbidsAlone 55 = .ok (.iconst 2, 1) := by decide +kernel
theorem dX0_forbidsAlone_56 : decode cX0_forbidsAlone 56 = .ok (.irem, 1) := by decide +kernel
theorem dX0_forbidsAlone_57 : decode cX0_forbidsAlone 57 = .ok (.if_icmp .eq 7, 3) := by decide +kernel
theorem dX0_forbidsAlone_60 : decode cX0_forbidsAlone 60 = .ok (.iconst 1, 1) := by decide +kernel
theorem dX0_forbidsAlone_61 : decode cX0_forbidsAlone 61 = .ok (.goto 4, 3) := by decide +kernel
theorem dX0_forbidsAlone_64 : decode cX0_forbidsAlone 64 = .ok (.iconst 0, 1) := by decide +kernel
theorem dX0_forbidsAlone_65 : decode cX0_forbidsAlone 65 = .ok (.ireturn, 1) := by decide +kernel
theorem dX0_forbidsAlone_66 : decode cX0_forbidsAlone 66 = .ok (.iconst 0, 1) := by decide +kernel
theorem dX0_forbidsAlone_67 : decode cX0_forbidsAlone 67 = .ok (.ireturn, 1) := by decide +kernel
theorem dX1_init_0 : decode cX1_init 0 = .ok (.aload_n 0, 1) := by decide +kernel
theorem dX1_init_1 : decode cX1_init 1 = .ok (.invokespecial 3, 3) := by decide +kernel
theorem dX1_init_4 : decode cX1_init 4 = .ok (.aload_n 0, 1) := by decide +kernel
theorem dX1_init_5 : decode cX1_init 5 = .ok (.bipush 6, 2) := by decide +kernel
theorem dX1_init_7 : decode cX1_init 7 = .ok (.newarray .int, 2) := by decide +kernel
theorem dX1_init_9 : decode cX1_init 9 = .ok (.putfield 9, 3) := by decide +kernel
theorem dX1_init_12 : decode cX1_init 12 = .ok (.aload_n 0, 1) := by decide +kernel
theorem dX1_init_13 : decode cX1_init 13 = .ok (.bipush 6, 2) := by decide +kernel
theorem dX1_init_15 : decode cX1_init 15 = .ok (.newarray .int, 2) := by decide +kernel
theorem dX1_init_17 : decode cX1_init 17 = .ok (.putfield 15, 3) := by decide +kernel
theorem dX1_init_20 : decode cX1_init 20 = .ok (.aload_n 0, 1) := by decide +kernel
theorem dX1_init_21 : decode cX1_init 21 = .ok (.bipush 6, 2) := by decide +kernel
theorem dX1_init_23 : decode cX1_init 23 = .ok (.newarray .int, 2) := by decide +kernel
theorem dX1_init_25 : decode cX1_init 25 = .ok (.putfield 18, 3) := by decide +kernel
theorem dX1_init_28 : decode cX1_init 28 = .ok (.aload_n 0, 1) := by decide +kernel
theorem dX1_init_29 : decode cX1_init 29 = .ok (.bipush 6, 2) := by decide +kernel
theorem dX1_init_31 : decode cX1_init 31 = .ok (.newarray .int, 2) := by decide +kernel
theorem dX1_init_33 : decode cX1_init 33 = .ok (.putfield 21, 3) := by decide +kernel
theorem dX1_init_36 : decode cX1_init 36 = .ok (.aload_n 0, 1) := by decide +kernel
theorem dX1_init_37 : decode cX1_init 37 = .ok (.bipush 6, 2) := by decide +kernel
theorem dX1_init_39 : decode cX1_init 39 = .ok (.newarray .int, 2) := by decide +kernel
theorem dX1_init_41 : decode cX1_init 41 = .ok (.putfield 24, 3) := by decide +kernel
theorem dX1_init_44 : decode cX1_init 44 = .ok (.aload_n 0, 1) := by decide +kernel
theorem dX1_init_45 : decode cX1_init 45 = .ok (.iconst 0, 1) := by decide +kernel
theorem dX1_init_46 : decode cX1_init 46 = .ok (.putfield 27, 3) := by decide +kernel
theorem dX1_init_49 : decode cX1_init 49 = .ok (.return_, 1) := by decide +kernel
theorem dX1_add_0 : decode cX1_add 0 = .ok (.aload_n 0, 1) := by decide +kernel
theorem dX1_add_1 : decode cX1_add 1 = .ok (.getfield 27, 3) := by decide +kernel
theorem dX1_add_4 : decode cX1_add 4 = .ok (.ifCond .lt 12, 3) := by decide +kernel
theorem dX1_add_7 : decode cX1_add 7 = .ok (.aload_n 0, 1) := by decide +kernel
theorem dX1_add_8 : decode cX1_add 8 = .ok (.getfield 27, 3) := by decide +kernel
theorem dX1_add_11 : decode cX1_add 11 = .ok (.bipush 6, 2) := by decide +kernel
theorem dX1_add_13 : decode cX1_add 13 = .ok (.if_icmp .lt 5, 3) := by decide +kernel
theorem dX1_add_16 : decode cX1_add 16 = .ok (.iconst 0, 1) := by decide +kernel
theorem dX1_add_17 : decode cX1_add 17 = .ok (.ireturn, 1) := by decide +kernel
theorem dX1_add_18 : decode cX1_add 18 = .ok (.aload_n 0, 1) := by decide +kernel
theorem dX1_add_19 : decode cX1_add 19 = .ok (.getfield 9, 3) := by decide +kernel
theorem dX1_add_22 : decode cX1_add 22 = .ok (.aload_n 0, 1) := by decide +kernel
theorem dX1_add_23 : decode cX1_add 23 = .ok (.getfield 27, 3) := by decide +kernel
theorem dX1_add_26 : decode cX1_add 26 = .ok (.iload_n 1, 1) := by decide +kernel
theorem dX1_add_27 : decode cX1_add 27 = .ok (.iastore, 1) := by decide +kernel
theorem dX1_add_28 : decode cX1_add 28 = .ok (.aload_n 0, 1) := by decide +kernel
theorem dX1_add_29 : decode cX1_add 29 = .ok (.getfield 15, 3) := by decide +kernel
theorem dX1_add_32 : decode cX1_add 32 = .ok (.aload_n 0, 1) := by decide +kernel
theorem dX1_add_33 : decode cX1_add 33 = .ok (.getfield 27, 3) := by decide +kernel
theorem dX1_add_36 : decode cX1_add 36 = .ok (.iload_n 2, 1) := by decide +kernel
theorem dX1_add_37 : decode cX1_add 37 = .ok (.iastore, 1) := by decide +kernel
theorem dX1_add_38 : decode cX1_add 38 = .ok (.aload_n 0, 1) := by decide +kernel
theorem dX1_add_39 : decode cX1_add 39 = .ok (.getfield 18, 3) := by decide +kernel
theorem dX1_add_42 : decode cX1_add 42 = .ok (.aload_n 0, 1) := by decide +kernel
theorem dX1_add_43 : decode cX1_add 43 = .ok (.getfield 27, 3) := by decide +kernel
theorem dX1_add_46 : decode cX1_add 46 = .ok (.iload_n 3, 1) := by decide +kernel
theorem dX1_add_47 : decode cX1_add 47 = .ok (.iastore, 1) := by decide +kernel
theorem dX1_add_48 : decode cX1_add 48 = .ok (.aload_n 0, 1) := by decide +kernel
theorem dX1_add_49 : decode cX1_add 49 = .ok (.getfield 21, 3) := by decide +kernel
theorem dX1_add_52 : decode cX1_add 52 = .ok (.aload_n 0, 1) := by decide +kernel
theorem dX1_add_53 : decode cX1_add 53 = .ok (.getfield 27, 3) := by decide +kernel
theorem dX1_add_56 : decode cX1_add 56 = .ok (.iload 4, 2) := by decide +kernel
theorem dX1_add_58 : decode cX1_add 58 = .ok (.iastore, 1) := by decide +kernel
theorem dX1_add_59 : decode cX1_add 59 = .ok (.aload_n 0, 1) := by decide +kernel
theorem dX1_add_60 : decode cX1_add 60 = .ok (.getfield 24, 3) := by decide +kernel
theorem dX1_add_63 : decode cX1_add 63 = .ok (.aload_n 0, 1) := by decide +kernel
theorem dX1_add_64 : decode cX1_add 64 = .ok (.getfield 27, 3) := by decide +kernel
theorem dX1_add_67 : decode cX1_add 67 = .ok (.iload 5, 2) := by decide +kernel
theorem dX1_add_69 : decode cX1_add 69 = .ok (.iastore, 1) := by decide +kernel
theorem dX1_add_70 : decode cX1_add 70 = .ok (.aload_n 0, 1) := by decide +kernel
theorem dX1_add_71 : decode cX1_add 71 = .ok (.dup, 1) := by decide +kernel
theorem dX1_add_72 : decode cX1_add 72 = .ok (.getfield 27, 3) := by decide +kernel
theorem dX1_add_75 : decode cX1_add 75 = .ok (.iconst 1, 1) := by decide +kernel
theorem dX1_add_76 : decode cX1_add 76 = .ok (.iadd, 1) := by decide +kernel
theorem dX1_add_77 : decode cX1_add 77 = .ok (.putfield 27, 3) := by decide +kernel
theorem dX1_add_80 : decode cX1_add 80 = .ok (.iconst 1, 1) := by decide +kernel
theorem dX1_add_81 : decode cX1_add 81 = .ok (.ireturn, 1) := by decide +kernel
set_option maxRecDepth 20000 in
theorem ggX1_agreeWith_X0_forbidsAlone : GoodIn wsX1_agreeWith wsX0_forbidsAlone := goodIn_r _ [9] (by decide +kernel) (by decide +kernel)
set_option maxRecDepth 20000 in
theorem gX1_agreeWith_X0_forbidsAlone_n31 : GoodIn wsX1_agreeWith (wsX0_forbidsAlone) := ggX1_agreeWith_X0_forbidsAlone
theorem dX1_agreeWith_0 : decode cX1_agreeWith 0 = .ok (.iconst 0, 1) := by decide +kernel
theorem dX1_agreeWith_1 : decode cX1_agreeWith 1 = .ok (.istore 4, 2) := by decide +kernel
theorem dX1_agreeWith_3 : decode cX1_agreeWith 3 = .ok (.iload 4, 2) := by decide +kernel
theorem dX1_agreeWith_5 : decode cX1_agreeWith 5 = .ok (.aload_n 0, 1) := by decide +kernel
theorem dX1_agreeWith_6 : decode cX1_agreeWith 6 = .ok (.getfield 27, 3) := by decide +kernel
theorem dX1_agreeWith_9 : decode cX1_agreeWith 9 = .ok (.if_icmp .ge 78, 3) := by decide +kernel
theorem dX1_agreeWith_12 : decode cX1_agreeWith 12 = .ok (.iload 4, 2) := by decide +kernel
theorem dX1_agreeWith_14 : decode cX1_agreeWith 14 = .ok (.bipush 6, 2) := by decide +kernel
theorem dX1_agreeWith_16 : decode cX1_agreeWith 16 = .ok (.if_icmp .ge 71, 3) := by decide +kernel
theorem dX1_agreeWith_19 : decode cX1_agreeWith 19 = .ok (.iload_n 2, 1) := by decide +kernel
theorem dX1_agreeWith_20 : decode cX1_agreeWith 20 = .ok (.iload_n 3, 1) := by decide +kernel
theorem dX1_agreeWith_21 : decode cX1_agreeWith 21 = .ok (.aload_n 0, 1) := by decide +kernel
theorem dX1_agreeWith_22 : decode cX1_agreeWith 22 = .ok (.getfield 15, 3) := by decide +kernel
theorem dX1_agreeWith_25 : decode cX1_agreeWith 25 = .ok (.iload 4, 2) := by decide +kernel
theorem dX1_agreeWith_27 : decode cX1_agreeWith 27 = .ok (.iaload, 1) := by decide +kernel
theorem dX1_agreeWith_28 : decode cX1_agreeWith 28 = .ok (.aload_n 0, 1) := by decide +kernel
theorem dX1_agreeWith_29 : decode cX1_agreeWith 29 = .ok (.getfield 18, 3) := by decide +kernel
theorem dX1_agreeWith_32 : decode cX1_agreeWith 32 = .ok (.iload 4, 2) := by decide +kernel
theorem dX1_agreeWith_34 : decode cX1_agreeWith 34 = .ok (.iaload, 1) := by decide +kernel
theorem dX1_agreeWith_35 : decode cX1_agreeWith 35 = .ok (.aload_n 0, 1) := by decide +kernel
theorem dX1_agreeWith_36 : decode cX1_agreeWith 36 = .ok (.getfield 21, 3) := by decide +kernel
theorem dX1_agreeWith_39 : decode cX1_agreeWith 39 = .ok (.iload 4, 2) := by decide +kernel
theorem dX1_agreeWith_41 : decode cX1_agreeWith 41 = .ok (.iaload, 1) := by decide +kernel
theorem dX1_agreeWith_42 : decode cX1_agreeWith 42 = .ok (.invokestatic 31, 3) := by decide +kernel
theorem dX1_agreeWith_45 : decode cX1_agreeWith 45 = .ok (.istore 5, 2) := by decide +kernel
theorem dX1_agreeWith_47 : decode cX1_agreeWith 47 = .ok (.aload_n 0, 1) := by decide +kernel
theorem dX1_agreeWith_48 : decode cX1_agreeWith 48 = .ok (.getfield 9, 3) := by decide +kernel
theorem dX1_agreeWith_51 : decode cX1_agreeWith 51 = .ok (.iload 4, 2) := by decide +kernel
theorem dX1_agreeWith_53 : decode cX1_agreeWith 53 = .ok (.iaload, 1) := by decide +kernel
theorem dX1_agreeWith_54 : decode cX1_agreeWith 54 = .ok (.iload_n 1, 1) := by decide +kernel
theorem dX1_agreeWith_55 : decode cX1_agreeWith 55 = .ok (.if_icmp .ne 26, 3) := by decide +kernel
theorem dX1_agreeWith_58 : decode cX1_agreeWith 58 = .ok (.iload 5, 2) := by decide +kernel
theorem dX1_agreeWith_60 : decode cX1_agreeWith 60 = .ok (.aload_n 0, 1) := by decide +kernel
theorem dX1_agreeWith_61 : decode cX1_agreeWith 61 = .ok (.getfield 24, 3) := by decide +kernel
theorem dX1_agreeWith_64 : decode cX1_agreeWith 64 = .ok (.iload 4, 2) := by decide +kernel
theorem dX1_agreeWith_66 : decode cX1_agreeWith 66 = .ok (.iaload, 1) := by decide +kernel
theorem dX1_agreeWith_67 : decode cX1_agreeWith 67 = .ok (.iconst 1, 1) := by decide +kernel
theorem dX1_agreeWith_68 : decode cX1_agreeWith 68 = .ok (.if_icmp .ne 7, 3) := by decide +kernel
theorem dX1_agreeWith_71 : decode cX1_agreeWith 71 = .ok (.iconst 1, 1) := by decide +kernel
theorem dX1_agreeWith_72 : decode cX1_agreeWith 72 = .ok (.goto 4, 3) := by decide +kernel
theorem dX1_agreeWith_75 : decode cX1_agreeWith 75 = .ok (.iconst 0, 1) := by decide +kernel
theorem dX1_agreeWith_76 : decode cX1_agreeWith 76 = .ok (.if_icmp .eq 5, 3) := by decide +kernel
theorem dX1_agreeWith_79 : decode cX1_agreeWith 79 = .ok (.iconst 0, 1) := by decide +kernel
theorem dX1_agreeWith_80 : decode cX1_agreeWith 80 = .ok (.ireturn, 1) := by decide +kernel
theorem dX1_agreeWith_81 : decode cX1_agreeWith 81 = .ok (.iinc 4 1, 3) := by decide +kernel
theorem dX1_agreeWith_84 : decode cX1_agreeWith 84 = .ok (.goto (-81), 3) := by decide +kernel
theorem dX1_agreeWith_87 : decode cX1_agreeWith 87 = .ok (.iconst 1, 1) := by decide +kernel
theorem dX1_agreeWith_88 : decode cX1_agreeWith 88 = .ok (.ireturn, 1) := by decide +kernel
theorem dX2_init_0 : decode cX2_init 0 = .ok (.aload_n 0, 1) := by decide +kernel
theorem dX2_init_1 : decode cX2_init 1 = .ok (.invokespecial 3, 3) := by decide +kernel
theorem dX2_init_4 : decode cX2_init 4 = .ok (.aload_n 0, 1) := by decide +kernel
theorem dX2_init_5 : decode cX2_init 5 = .ok (.iconst 5, 1) := by decide +kernel
theorem dX2_init_6 : decode cX2_init 6 = .ok (.newarray .int, 2) := by decide +kernel
theorem dX2_init_8 : decode cX2_init 8 = .ok (.putfield 9, 3) := by decide +kernel
theorem dX2_init_11 : decode cX2_init 11 = .ok (.aload_n 0, 1) := by decide +kernel
theorem dX2_init_12 : decode cX2_init 12 = .ok (.iconst 5, 1) := by decide +kernel
theorem dX2_init_13 : decode cX2_init 13 = .ok (.newarray .int, 2) := by decide +kernel
theorem dX2_init_15 : decode cX2_init 15 = .ok (.putfield 15, 3) := by decide +kernel
theorem dX2_init_18 : decode cX2_init 18 = .ok (.aload_n 0, 1) := by decide +kernel
theorem dX2_init_19 : decode cX2_init 19 = .ok (.iconst 5, 1) := by decide +kernel
theorem dX2_init_20 : decode cX2_init 20 = .ok (.newarray .int, 2) := by decide +kernel
theorem dX2_init_22 : decode cX2_init 22 = .ok (.putfield 18, 3) := by decide +kernel
theorem dX2_init_25 : decode cX2_init 25 = .ok (.aload_n 0, 1) := by decide +kernel
theorem dX2_init_26 : decode cX2_init 26 = .ok (.iconst 0, 1) := by decide +kernel
theorem dX2_init_27 : decode cX2_init 27 = .ok (.putfield 21, 3) := by decide +kernel
theorem dX2_init_30 : decode cX2_init 30 = .ok (.aload_n 0, 1) := by decide +kernel
theorem dX2_init_31 : decode cX2_init 31 = .ok (.iconst 0, 1) := by decide +kernel
theorem dX2_init_32 : decode cX2_init 32 = .ok (.putfield 25, 3) := by decide +kernel
theorem dX2_init_35 : decode cX2_init 35 = .ok (.return_, 1) := by decide +kernel
theorem dX3_init_0 : decode cX3_init 0 = .ok (.aload_n 0, 1) := by decide +kernel
theorem dX3_init_1 : decode cX3_init 1 = .ok (.invokespecial 3, 3) := by decide +kernel
theorem dX3_init_4 : decode cX3_init 4 = .ok (.aload_n 0, 1) := by decide +kernel
theorem dX3_init_5 : decode cX3_init 5 = .ok (.bipush 48, 2) := by decide +kernel
theorem dX3_init_7 : decode cX3_init 7 = .ok (.newarray .int, 2) := by decide +kernel
theorem dX3_init_9 : decode cX3_init 9 = .ok (.putfield 9, 3) := by decide +kernel
theorem dX3_init_12 : decode cX3_init 12 = .ok (.aload_n 0, 1) := by decide +kernel
theorem dX3_init_13 : decode cX3_init 13 = .ok (.iconst 0, 1) := by decide +kernel
theorem dX3_init_14 : decode cX3_init 14 = .ok (.putfield 15, 3) := by decide +kernel
theorem dX3_init_17 : decode cX3_init 17 = .ok (.return_, 1) := by decide +kernel
theorem dX3_put_0 : decode cX3_put 0 = .ok (.aload_n 0, 1) := by decide +kernel
theorem dX3_put_1 : decode cX3_put 1 = .ok (.getfield 15, 3) := by decide +kernel
theorem dX3_put_4 : decode cX3_put 4 = .ok (.ifCond .lt 15, 3) := by decide +kernel
theorem dX3_put_7 : decode cX3_put 7 = .ok (.aload_n 0, 1) := by decide +kernel
theorem dX3_put_8 : decode cX3_put 8 = .ok (.getfield 15, 3) := by decide +kernel
theorem dX3_put_11 : decode cX3_put 11 = .ok (.aload_n 0, 1) := by decide +kernel
theorem dX3_put_12 : decode cX3_put 12 = .ok (.getfield 9, 3) := by decide +kernel
theorem dX3_put_15 : decode cX3_put 15 = .ok (.arraylength, 1) := by decide +kernel
theorem dX3_put_16 : decode cX3_put 16 = .ok (.if_icmp .lt 5, 3) := by decide +kernel
theorem dX3_put_19 : decode cX3_put 19 = .ok (.iconst 0, 1) := by decide +kernel
theorem dX3_put_20 : decode cX3_put 20 = .ok (.ireturn, 1) := by decide +kernel
theorem dX3_put_21 : decode cX3_put 21 = .ok (.aload_n 0, 1) := by decide +kernel
theorem dX3_put_22 : decode cX3_put 22 = .ok (.getfield 9, 3) := by decide +kernel
theorem dX3_put_25 : decode cX3_put 25 = .ok (.aload_n 0, 1) := by decide +kernel
theorem dX3_put_26 : decode cX3_put 26 = .ok (.getfield 15, 3) := by decide +kernel
theorem dX3_put_29 : decode cX3_put 29 = .ok (.iload_n 1, 1) := by decide +kernel
theorem dX3_put_30 : decode cX3_put 30 = .ok (.iastore, 1) := by decide +kernel
theorem dX3_put_31 : decode cX3_put 31 = .ok (.aload_n 0, 1) := by decide +kernel
theorem dX3_put_32 : decode cX3_put 32 = .ok (.dup, 1) := by decide +kernel
theorem dX3_put_33 : decode cX3_put 33 = .ok (.getfield 15, 3) := by decide +kernel
theorem dX3_put_36 : decode cX3_put 36 = .ok (.iconst 1, 1) := by decide +kernel
theorem dX3_put_37 : decode cX3_put 37 = .ok (.iadd, 1) := by decide +kernel
theorem dX3_put_38 : decode cX3_put 38 = .ok (.putfield 15, 3) := by decide +kernel
theorem dX3_put_41 : decode cX3_put 41 = .ok (.iconst 1, 1) := by decide +kernel
theorem dX3_put_42 : decode cX3_put 42 = .ok (.ireturn, 1) := by decide +kernel
theorem dX3_letter_0 : decode cX3_letter 0 = .ok (.iload_n 1, 1) := by decide +kernel
theorem dX3_letter_1 : decode cX3_letter 1 = .ok (.ifCond .lt 29, 3) := by decide +kernel
theorem dX3_letter_4 : decode cX3_letter 4 = .ok (.iload_n 1, 1) := by decide +kernel
theorem dX3_letter_5 : decode cX3_letter 5 = .ok (.aload_n 0, 1) := by decide +kernel
theorem dX3_letter_6 : decode cX3_letter 6 = .ok (.getfield 15, 3) := by decide +kernel
theorem dX3_letter_9 : decode cX3_letter 9 = .ok (.if_icmp .ge 21, 3) := by decide +kernel
theorem dX3_letter_12 : decode cX3_letter 12 = .ok (.iload_n 1, 1) := by decide +kernel
theorem dX3_letter_13 : decode cX3_letter 13 = .ok (.aload_n 0, 1) := by decide +kernel
theorem dX3_letter_14 : decode cX3_letter 14 = .ok (.getfield 9, 3) := by decide +kernel
theorem dX3_letter_17 : decode cX3_letter 17 = .ok (.arraylength, 1) := by decide +kernel
theorem dX3_letter_18 : decode cX3_letter 18 = .ok (.if_icmp .ge 12, 3) := by decide +kernel
theorem dX3_letter_21 : decode cX3_letter 21 = .ok (.aload_n 0, 1) := by decide +kernel
theorem dX3_letter_22 : decode cX3_letter 22 = .ok (.getfield 9, 3) := by decide +kernel
theorem dX3_letter_25 : decode cX3_letter 25 = .ok (.iload_n 1, 1) := by decide +kernel
theorem dX3_letter_26 : decode cX3_letter 26 = .ok (.iaload, 1) := by decide +kernel
theorem dX3_letter_27 : decode cX3_letter 27 = .ok (.goto 4, 3) := by decide +kernel
theorem dX3_letter_30 : decode cX3_letter 30 = .ok (.iconst 0, 1) := by decide +kernel
theorem dX3_letter_31 : decode cX3_letter 31 = .ok (.ireturn, 1) := by decide +kernel
set_option maxRecDepth 20000 in
theorem ggX3_figure_X3_letter : GoodIn wsX3_figure wsX3_letter := goodIn_r _ [5, 6, 7, 8, 9] (by decide +kernel) (by decide +kernel)
set_option maxRecDepth 20000 in
theorem gX3_figure_X3_letter : GoodIn wsX3_figure (wsV RX3 19 RX3 yX3_letter wsX3_letter) := goodIn_app (goodIn_of _ (by decide +kernel)) ggX3_figure_X3_letter
theorem dX3_figure_0 : decode cX3_figure 0 = .ok (.aload_n 0, 1) := by decide +kernel
theorem dX3_figure_1 : decode cX3_figure 1 = .ok (.iload_n 1, 1) := by decide +kernel
theorem dX3_figure_2 : decode cX3_figure 2 = .ok (.invokevirtual 19, 3) := by decide +kernel
theorem dX3_figure_5 : decode cX3_figure 5 = .ok (.bipush 48, 2) := by decide +kernel
theorem dX3_figure_7 : decode cX3_figure 7 = .ok (.isub, 1) := by decide +kernel
theorem dX3_figure_8 : decode cX3_figure 8 = .ok (.ireturn, 1) := by decide +kernel
set_option maxRecDepth 20000 in
theorem ggX3_firstFault_X3_letter : GoodIn wsX3_firstFault wsX3_letter := goodIn_r _ [6, 1, 7, 11, 12] (by decide +kernel) (by decide +kernel)
set_option maxRecDepth 20000 in
theorem gX3_firstFault_X3_letter : GoodIn wsX3_firstFault (wsV RX3 19 RX3 yX3_letter wsX3_letter) := goodIn_app (goodIn_of _ (by decide +kernel)) ggX3_firstFault_X3_letter
set_option maxRecDepth 20000 in
theorem ggX3_firstFault_X3_figuresAt : GoodIn wsX3_firstFault wsX3_figuresAt := goodIn_r _ [10] (by decide +kernel) (by decide +kernel)
set_option maxRecDepth 20000 in
theorem gX3_firstFault_X3_figuresAt : GoodIn wsX3_firstFault (va_wsS RX3 23 yX3_figuresAt wsX3_figuresAt) := goodIn_app (goodIn_of _ (by decide +kernel)) ggX3_firstFault_X3_figuresAt
theorem dX3_firstFault_0 : decode cX3_firstFault 0 = .ok (.iconst 0, 1) := by decide +kernel
theorem dX3_firstFault_1 : decode cX3_firstFault 1 = .ok (.istore_n 1, 1) := by decide +kernel
theorem dX3_firstFault_2 : decode cX3_firstFault 2 = .ok (.iconst 0, 1) := by decide +kernel
theorem dX3_firstFault_3 : decode cX3_firstFault 3 = .ok (.istore_n 2, 1) := by decide +kernel
theorem dX3_firstFault_4 : decode cX3_firstFault 4 = .ok (.bipush 77, 2) := by decide +kernel
theorem dX3_firstFault_6 : decode cX3_firstFault 6 = .ok (.istore_n 3, 1) := by decide +kernel
theorem dX3_firstFault_7 : decode cX3_firstFault 7 = .ok (.iconst 0, 1) := by decide +kernel
theorem dX3_firstFault_8 : decode cX3_firstFault 8 = .ok (.istore 4, 2) := by decide +kernel
theorem dX3_firstFault_10 : decode cX3_firstFault 10 = .ok (.iload 4, 2) := by decide +kernel
theorem dX3_firstFault_12 : decode cX3_firstFault 12 = .ok (.aload_n 0, 1) := by decide +kernel
theorem dX3_firstFault_13 : decode cX3_firstFault 13 = .ok (.getfield 15, 3) := by decide +kernel
theorem dX3_firstFault_16 : decode cX3_firstFault 16 = .ok (.if_icmp .ge 147, 3) := by decide +kernel
theorem dX3_firstFault_19 : decode cX3_firstFault 19 = .ok (.aload_n 0, 1) := by decide +kernel
theorem dX3_firstFault_20 : decode cX3_firstFault 20 = .ok (.iload 4, 2) := by decide +kernel
theorem dX3_firstFault_22 : decode cX3_firstFault 22 = .ok (.invokevirtual 19, 3) := by decide +kernel
theorem dX3_firstFault_25 : decode cX3_firstFault 25 = .ok (.istore 5, 2) := by decide +kernel
theorem dX3_firstFault_27 : decode cX3_firstFault 27 = .ok (.iload 5, 2) := by decide +kernel
theorem dX3_firstFault_29 : decode cX3_firstFault 29 = .ok (.bipush 65, 2) := by decide +kernel
theorem dX3_firstFault_31 : decode cX3_firstFault 31 = .ok (.if_icmp .ne 12, 3) := by decide +kernel
theorem dX3_firstFault_34 : decode cX3_firstFault 34 = .ok (.iload_n 2, 1) := by decide +kernel
theorem dX3_firstFault_35 : decode cX3_firstFault 35 = .ok (.iconst 5, 1) := by decide +kernel
theorem dX3_firstFault_36 : decode cX3_firstFault 36 = .ok (.if_icmp .ge 7, 3) := by decide +kernel
theorem dX3_firstFault_39 : decode cX3_firstFault 39 = .ok (.iconst 1, 1) := by decide +kernel
theorem dX3_firstFault_40 : decode cX3_firstFault 40 = .ok (.goto 4, 3) := by decide +kernel
theorem dX3_firstFault_43 : decode cX3_firstFault 43 = .ok (.iconst 0, 1) := by decide +kernel
theorem dX3_firstFault_44 : decode cX3_firstFault 44 = .ok (.istore 6, 2) := by decide +kernel
theorem dX3_firstFault_46 : decode cX3_firstFault 46 = .ok (.iload 5, 2) := by decide +kernel
theorem dX3_firstFault_48 : decode cX3_firstFault 48 = .ok (.bipush 77, 2) := by decide +kernel
theorem dX3_firstFault_50 : decode cX3_firstFault 50 = .ok (.if_icmp .ne 12, 3) := by decide +kernel
theorem dX3_firstFault_53 : decode cX3_firstFault 53 = .ok (.iload_n 1, 1) := by decide +kernel
theorem dX3_firstFault_54 : decode cX3_firstFault 54 = .ok (.iconst 5, 1) := by decide +kernel
theorem dX3_firstFault_55 : decode cX3_firstFault 55 = .ok (.if_icmp .ge 7, 3) := by decide +kernel
theorem dX3_firstFault_58 : decode cX3_firstFault 58 = .ok (.iconst 1, 1) := by decide +kernel
theorem dX3_firstFault_59 : decode cX3_firstFault 59 = .ok (.goto 4, 3) := by decide +kernel
theorem dX3_firstFault_62 : decode cX3_firstFault 62 = .ok (.iconst 0, 1) := by decide +kernel
theorem dX3_firstFault_63 : decode cX3_firstFault 63 = .ok (.istore 7, 2) := by decide +kernel
theorem dX3_firstFault_65 : decode cX3_firstFault 65 = .ok (.iload 4, 2) := by decide +kernel
theorem dX3_firstFault_67 : decode cX3_firstFault 67 = .ok (.ifCond .ne 13, 3) := by decide +kernel
theorem dX3_firstFault_70 : decode cX3_firstFault 70 = .ok (.iload 5, 2) := by decide +kernel
theorem dX3_firstFault_72 : decode cX3_firstFault 72 = .ok (.bipush 77, 2) := by decide +kernel
theorem dX3_firstFault_74 : decode cX3_firstFault 74 = .ok (.if_icmp .eq 83, 3) := by decide +kernel
theorem dX3_firstFault_77 : decode cX3_firstFault 77 = .ok (.iload 4, 2) := by decide +kernel
theorem dX3_firstFault_79 : decode cX3_firstFault 79 = .ok (.ireturn, 1) := by decide +kernel
theorem dX3_firstFault_80 : decode cX3_firstFault 80 = .ok (.iload 4, 2) := by decide +kernel
theorem dX3_firstFault_82 : decode cX3_firstFault 82 = .ok (.iconst 4, 1) := by decide +kernel
theorem dX3_firstFault_83 : decode cX3_firstFault 83 = .ok (.irem, 1) := by decide +kernel
theorem dX3_firstFault_84 : decode cX3_firstFault 84 = .ok (.iconst 1, 1) := by decide +kernel
theorem dX3_firstFault_85 : decode cX3_firstFault 85 = .ok (.if_icmp .ne 48, 3) := by decide +kernel
theorem dX3_firstFault_88 : decode cX3_firstFault 88 = .ok (.iload 6, 2) := by decide +kernel
theorem dX3_firstFault_90 : decode cX3_firstFault 90 = .ok (.ifCond .ne 11, 3) := by decide +kernel
theorem dX3_firstFault_93 : decode cX3_firstFault 93 = .ok (.iload 7, 2) := by decide +kernel
theorem dX3_firstFault_95 : decode cX3_firstFault 95 = .ok (.ifCond .ne 6, 3) := by decide +kernel
theorem dX3_firstFault_98 : decode cX3_firstFault 98 = .ok (.iload 4, 2) := by decide +kernel
theorem dX3_firstFault_100 : decode cX3_firstFault 100 = .ok (.ireturn, 1) := by decide +kernel
theorem dX3_firstFault_101 : decode cX3_firstFault 101 = .ok (.iload 5, 2) := by decide +kernel
theorem dX3_firstFault_103 : decode cX3_firstFault 103 = .ok (.istore_n 3, 1) := by decide +kernel
theorem dX3_firstFault_104 : decode cX3_firstFault 104 = .ok (.iload_n 2, 1) := by decide +kernel
theorem dX3_firstFault_105 : decode cX3_firstFault 105 = .ok (.iload 6, 2) := by decide +kernel
theorem dX3_firstFault_107 : decode cX3_firstFault 107 = .ok (.ifCond .eq 7, 3) := by decide +kernel
theorem dX3_firstFault_110 : decode cX3_firstFault 110 = .ok (.iconst 1, 1) := by decide +kernel
theorem dX3_firstFault_111 : decode cX3_firstFault 111 = .ok (.goto 4, 3) := by decide +kernel
theorem dX3_firstFault_114 : decode cX3_firstFault 114 = .ok (.iconst 0, 1) := by decide +kernel
theorem dX3_firstFault_115 : decode cX3_firstFault 115 = .ok (.iadd, 1) := by decide +kernel
theorem dX3_firstFault_116 : decode cX3_firstFault 116 = .ok (.istore_n 2, 1) := by decide +kernel
theorem dX3_firstFault_117 : decode cX3_firstFault 117 = .ok (.iload_n 1, 1) := by decide +kernel
theorem dX3_firstFault_118 : decode cX3_firstFault 118 = .ok (.iload 7, 2) := by decide +kernel
theorem dX3_firstFault_120 : decode cX3_firstFault 120 = .ok (.ifCond .eq 7, 3) := by decide +kernel
theorem dX3_firstFault_123 : decode cX3_firstFault 123 = .ok (.iconst 1, 1) := by decide +kernel
theorem dX3_firstFault_124 : decode cX3_firstFault 124 = .ok (.goto 4, 3) := by decide +kernel
theorem dX3_firstFault_127 : decode cX3_firstFault 127 = .ok (.iconst 0, 1) := by decide +kernel
theorem dX3_firstFault_128 : decode cX3_firstFault 128 = .ok (.iadd, 1) := by decide +kernel
theorem dX3_firstFault_129 : decode cX3_firstFault 129 = .ok (.istore_n 1, 1) := by decide +kernel
theorem dX3_firstFault_130 : decode cX3_firstFault 130 = .ok (.goto 27, 3) := by decide +kernel
theorem dX3_firstFault_133 : decode cX3_firstFault 133 = .ok (.iload 5, 2) := by decide +kernel
theorem dX3_firstFault_135 : decode cX3_firstFault 135 = .ok (.bipush 48, 2) := by decide +kernel
theorem dX3_firstFault_137 : decode cX3_firstFault 137 = .ok (.if_icmp .lt 17, 3) := by decide +kernel
theorem dX3_firstFault_140 : decode cX3_firstFault 140 = .ok (.iload 5, 2) := by decide +kernel
theorem dX3_firstFault_142 : decode cX3_firstFault 142 = .ok (.bipush 48, 2) := by decide +kernel
theorem dX3_firstFault_144 : decode cX3_firstFault 144 = .ok (.iload 4, 2) := by decide +kernel
theorem dX3_firstFault_146 : decode cX3_firstFault 146 = .ok (.iload_n 3, 1) := by decide +kernel
theorem dX3_firstFault_147 : decode cX3_firstFault 147 = .ok (.invokestatic 23, 3) := by decide +kernel
theorem dX3_firstFault_150 : decode cX3_firstFault 150 = .ok (.iadd, 1) := by decide +kernel
theorem dX3_firstFault_151 : decode cX3_firstFault 151 = .ok (.if_icmp .lt 6, 3) := by decide +kernel
theorem dX3_firstFault_154 : decode cX3_firstFault 154 = .ok (.iload 4, 2) := by decide +kernel
theorem dX3_firstFault_156 : decode cX3_firstFault 156 = .ok (.ireturn, 1) := by decide +kernel
theorem dX3_firstFault_157 : decode cX3_firstFault 157 = .ok (.iinc 4 1, 3) := by decide +kernel
theorem dX3_firstFault_160 : decode cX3_firstFault 160 = .ok (.goto (-150), 3) := by decide +kernel
theorem dX3_firstFault_163 : decode cX3_firstFault 163 = .ok (.aload_n 0, 1) := by decide +kernel
theorem dX3_firstFault_164 : decode cX3_firstFault 164 = .ok (.getfield 15, 3) := by decide +kernel
theorem dX3_firstFault_167 : decode cX3_firstFault 167 = .ok (.iconst 4, 1) := by decide +kernel
theorem dX3_firstFault_168 : decode cX3_firstFault 168 = .ok (.irem, 1) := by decide +kernel
theorem dX3_firstFault_169 : decode cX3_firstFault 169 = .ok (.iconst 1, 1) := by decide +kernel
theorem dX3_firstFault_170 : decode cX3_firstFault 170 = .ok (.if_icmp .ne 8, 3) := by decide +kernel
theorem dX3_firstFault_173 : decode cX3_firstFault 173 = .ok (.bipush (-9), 2) := by decide +kernel
theorem dX3_firstFault_175 : decode cX3_firstFault 175 = .ok (.goto 7, 3) := by decide +kernel
theorem dX3_firstFault_178 : decode cX3_firstFault 178 = .ok (.aload_n 0, 1) := by decide +kernel
theorem dX3_firstFault_179 : decode cX3_firstFault 179 = .ok (.getfield 15, 3) := by decide +kernel
theorem dX3_firstFault_182 : decode cX3_firstFault 182 = .ok (.ireturn, 1) := by decide +kernel
theorem dX3_figuresAt_0 : decode cX3_figuresAt 0 = .ok (.iload_n 0, 1) := by decide +kernel
theorem dX3_figuresAt_1 : decode cX3_figuresAt 1 = .ok (.iconst 4, 1) := by decide +kernel
theorem dX3_figuresAt_2 : decode cX3_figuresAt 2 = .ok (.irem, 1) := by decide +kernel
theorem dX3_figuresAt_3 : decode cX3_figuresAt 3 = .ok (.lookupswitch 40 #[(2, 25), (3, 28)], 25) := by decide +kernel
theorem dX3_figuresAt_28 : decode cX3_figuresAt 28 = .ok (.bipush 10, 2) := by decide +kernel
theorem dX3_figuresAt_30 : decode cX3_figuresAt 30 = .ok (.ireturn, 1) := by decide +kernel
theorem dX3_figuresAt_31 : decode cX3_figuresAt 31 = .ok (.iload_n 1, 1) := by decide +kernel
theorem dX3_figuresAt_32 : decode cX3_figuresAt 32 = .ok (.bipush 65, 2) := by decide +kernel
theorem dX3_figuresAt_34 : decode cX3_figuresAt 34 = .ok (.if_icmp .ne 7, 3) := by decide +kernel
theorem dX3_figuresAt_37 : decode cX3_figuresAt 37 = .ok (.iconst 4, 1) := by decide +kernel
theorem dX3_figuresAt_38 : decode cX3_figuresAt 38 = .ok (.goto 4, 3) := by decide +kernel
theorem dX3_figuresAt_41 : decode cX3_figuresAt 41 = .ok (.iconst 4, 1) := by decide +kernel
theorem dX3_figuresAt_42 : decode cX3_figuresAt 42 = .ok (.ireturn, 1) := by decide +kernel
theorem dX3_figuresAt_43 : decode cX3_figuresAt 43 = .ok (.iload_n 1, 1) := by decide +kernel
theorem dX3_figuresAt_44 : decode cX3_figuresAt 44 = .ok (.bipush 65, 2) := by decide +kernel
theorem dX3_figuresAt_46 : decode cX3_figuresAt 46 = .ok (.if_icmp .ne 8, 3) := by decide +kernel
theorem dX3_figuresAt_49 : decode cX3_figuresAt 49 = .ok (.bipush 10, 2) := by decide +kernel
theorem dX3_figuresAt_51 : decode cX3_figuresAt 51 = .ok (.goto 4, 3) := by decide +kernel
theorem dX3_figuresAt_54 : decode cX3_figuresAt 54 = .ok (.iconst 4, 1) := by decide +kernel
theorem dX3_figuresAt_55 : decode cX3_figuresAt 55 = .ok (.ireturn, 1) := by decide +kernel
set_option maxRecDepth 20000 in
theorem ggX4_init_X3_init : GoodIn wsX4_init wsX3_init := goodIn_r _ [33, 34, 2, 3, 12, 35, 36, 61, 62] (by decide +kernel) (by decide +kernel)
set_option maxRecDepth 20000 in
theorem gX4_init_X3_init_n9 : GoodIn wsX4_init (wsX3_init) := ggX4_init_X3_init
set_option maxRecDepth 20000 in
theorem ggX4_init_X0_init : GoodIn wsX4_init wsX0_init := goodIn_r _ [38, 39, 2, 3, 12, 40, 41, 42, 43, 77, 78, 79, 80] (by decide +kernel) (by decide +kernel)
set_option maxRecDepth 20000 in
theorem gX4_init_X0_init_n18 : GoodIn wsX4_init (wsX0_init) := ggX4_init_X0_init
set_option maxRecDepth 20000 in
theorem ggX4_init_X2_init : GoodIn wsX4_init wsX2_init := goodIn_r _ [45, 46, 2, 3, 12, 47, 48, 49, 50, 51, 81, 82, 83, 84, 85] (by decide +kernel) (by decide +kernel)
set_option maxRecDepth 20000 in
theorem gX4_init_X2_init_n33 : GoodIn wsX4_init (wsX2_init) := ggX4_init_X2_init
set_option maxRecDepth 20000 in
theorem ggX4_init_X1_init : GoodIn wsX4_init wsX1_init := goodIn_r _ [53, 54, 2, 3, 12, 55, 56, 57, 58, 59, 60, 86, 87, 88, 89, 90, 91] (by decide +kernel) (by decide +kernel)
set_option maxRecDepth 20000 in
theorem gX4_init_X1_init_n60 : GoodIn wsX4_init (wsX1_init) := ggX4_init_X1_init
theorem dX4_init_0 : decode cX4_init 0 = .ok (.aload_n 0, 1) := by decide +kernel
theorem dX4_init_1 : decode cX4_init 1 = .ok (.invokespecial 1, 3) := by decide +kernel
theorem dX4_init_4 : decode cX4_init 4 = .ok (.aload_n 0, 1) := by decide +kernel
theorem dX4_init_5 : decode cX4_init 5 = .ok (.new 7, 3) := by decide +kernel
theorem dX4_init_8 : decode cX4_init 8 = .ok (.dup, 1) := by decide +kernel
theorem dX4_init_9 : decode cX4_init 9 = .ok (.invokespecial 9, 3) := by decide +kernel
theorem dX4_init_12 : decode cX4_init 12 = .ok (.putfield 10, 3) := by decide +kernel
theorem dX4_init_15 : decode cX4_init 15 = .ok (.aload_n 0, 1) := by decide +kernel
theorem dX4_init_16 : decode cX4_init 16 = .ok (.new 16, 3) := by decide +kernel
theorem dX4_init_19 : decode cX4_init 19 = .ok (.dup, 1) := by decide +kernel
theorem dX4_init_20 : decode cX4_init 20 = .ok (.invokespecial 18, 3) := by decide +kernel
theorem dX4_init_23 : decode cX4_init 23 = .ok (.putfield 19, 3) := by decide +kernel
theorem dX4_init_26 : decode cX4_init 26 = .ok (.aload_n 0, 1) := by decide +kernel
theorem dX4_init_27 : decode cX4_init 27 = .ok (.iconst 5, 1) := by decide +kernel
theorem dX4_init_28 : decode cX4_init 28 = .ok (.newarray .int, 2) := by decide +kernel
theorem dX4_init_30 : decode cX4_init 30 = .ok (.putfield 23, 3) := by decide +kernel
theorem dX4_init_33 : decode cX4_init 33 = .ok (.aload_n 0, 1) := by decide +kernel
theorem dX4_init_34 : decode cX4_init 34 = .ok (.iconst 0, 1) := by decide +kernel
theorem dX4_init_35 : decode cX4_init 35 = .ok (.putfield 27, 3) := by decide +kernel
theorem dX4_init_38 : decode cX4_init 38 = .ok (.aload_n 0, 1) := by decide +kernel
theorem dX4_init_39 : decode cX4_init 39 = .ok (.new 31, 3) := by decide +kernel
theorem dX4_init_42 : decode cX4_init 42 = .ok (.dup, 1) := by decide +kernel
theorem dX4_init_43 : decode cX4_init 43 = .ok (.invokespecial 33, 3) := by decide +kernel
theorem dX4_init_46 : decode cX4_init 46 = .ok (.putfield 34, 3) := by decide +kernel
theorem dX4_init_49 : decode cX4_init 49 = .ok (.aload_n 0, 1) := by decide +kernel
theorem dX4_init_50 : decode cX4_init 50 = .ok (.new 31, 3) := by decide +kernel
theorem dX4_init_53 : decode cX4_init 53 = .ok (.dup, 1) := by decide +kernel
theorem dX4_init_54 : decode cX4_init 54 = .ok (.invokespecial 33, 3) := by decide +kernel
theorem dX4_init_57 : decode cX4_init 57 = .ok (.putfield 38, 3) := by decide +kernel
theorem dX4_init_60 : decode cX4_init 60 = .ok (.aload_n 0, 1) := by decide +kernel
theorem dX4_init_61 : decode cX4_init 61 = .ok (.bipush 14, 2) := by decide +kernel
theorem dX4_init_63 : decode cX4_init 63 = .ok (.anewarray 31, 3) := by decide +kernel
theorem dX4_init_66 : decode cX4_init 66 = .ok (.putfield 41, 3) := by decide +kernel
theorem dX4_init_69 : decode cX4_init 69 = .ok (.aload_n 0, 1) := by decide +kernel
theorem dX4_init_70 : decode cX4_init 70 = .ok (.iconst 0, 1) := by decide +kernel
theorem dX4_init_71 : decode cX4_init 71 = .ok (.putfield 45, 3) := by decide +kernel
theorem dX4_init_74 : decode cX4_init 74 = .ok (.aload_n 0, 1) := by decide +kernel
theorem dX4_init_75 : decode cX4_init 75 = .ok (.iconst 0, 1) := by decide +kernel
theorem dX4_init_76 : decode cX4_init 76 = .ok (.putfield 48, 3) := by decide +kernel
theorem dX4_init_79 : decode cX4_init 79 = .ok (.aload_n 0, 1) := by decide +kernel
theorem dX4_init_80 : decode cX4_init 80 = .ok (.iconst 2, 1) := by decide +kernel
theorem dX4_init_81 : decode cX4_init 81 = .ok (.anewarray 31, 3) := by decide +kernel
theorem dX4_init_84 : decode cX4_init 84 = .ok (.putfield 51, 3) := by decide +kernel
theorem dX4_init_87 : decode cX4_init 87 = .ok (.aload_n 0, 1) := by decide +kernel
theorem dX4_init_88 : decode cX4_init 88 = .ok (.iconst 2, 1) := by decide +kernel
theorem dX4_init_89 : decode cX4_init 89 = .ok (.newarray .boolean, 2) := by decide +kernel
theorem dX4_init_91 : decode cX4_init 91 = .ok (.putfield 54, 3) := by decide +kernel
theorem dX4_init_94 : decode cX4_init 94 = .ok (.aload_n 0, 1) := by decide +kernel
theorem dX4_init_95 : decode cX4_init 95 = .ok (.new 58, 3) := by decide +kernel
theorem dX4_init_98 : decode cX4_init 98 = .ok (.dup, 1) := by decide +kernel
theorem dX4_init_99 : decode cX4_init 99 = .ok (.invokespecial 60, 3) := by decide +kernel
theorem dX4_init_102 : decode cX4_init 102 = .ok (.putfield 61, 3) := by decide +kernel
theorem dX4_init_105 : decode cX4_init 105 = .ok (.aload_n 0, 1) := by decide +kernel
theorem dX4_init_106 : decode cX4_init 106 = .ok (.bipush 6, 2) := by decide +kernel
theorem dX4_init_108 : decode cX4_init 108 = .ok (.newarray .int, 2) := by decide +kernel
theorem dX4_init_110 : decode cX4_init 110 = .ok (.putfield 65, 3) := by decide +kernel
theorem dX4_init_113 : decode cX4_init 113 = .ok (.aload_n 0, 1) := by decide +kernel
theorem dX4_init_114 : decode cX4_init 114 = .ok (.lconst 0, 1) := by decide +kernel
theorem dX4_init_115 : decode cX4_init 115 = .ok (.putfield 68, 3) := by decide +kernel
theorem dX4_init_118 : decode cX4_init 118 = .ok (.iconst 0, 1) := by decide +kernel
theorem dX4_init_119 : decode cX4_init 119 = .ok (.istore_n 1, 1) := by decide +kernel
theorem dX4_init_120 : decode cX4_init 120 = .ok (.iload_n 1, 1) := by decide +kernel
theorem dX4_init_121 : decode cX4_init 121 = .ok (.aload_n 0, 1) := by decide +kernel
theorem dX4_init_122 : decode cX4_init 122 = .ok (.getfield 41, 3) := by decide +kernel
theorem dX4_init_125 : decode cX4_init 125 = .ok (.arraylength, 1) := by decide +kernel
theorem dX4_init_126 : decode cX4_init 126 = .ok (.if_icmp .ge 22, 3) := by decide +kernel
theorem dX4_init_129 : decode cX4_init 129 = .ok (.aload_n 0, 1) := by decide +kernel
theorem dX4_init_130 : decode cX4_init 130 = .ok (.getfield 41, 3) := by decide +kernel
theorem dX4_init_133 : decode cX4_init 133 = .ok (.iload_n 1, 1) := by decide +kernel
theorem dX4_init_134 : decode cX4_init 134 = .ok (.new 31, 3) := by decide +kernel
theorem dX4_init_137 : decode cX4_init 137 = .ok (.dup, 1) := by decide +kernel
theorem dX4_init_138 : decode cX4_init 138 = .ok (.invokespecial 33, 3) := by decide +kernel
theorem dX4_init_141 : decode cX4_init 141 = .ok (.aastore, 1) := by decide +kernel
theorem dX4_init_142 : decode cX4_init 142 = .ok (.iinc 1 1, 3) := by decide +kernel
theorem dX4_init_145 : decode cX4_init 145 = .ok (.goto (-25), 3) := by decide +kernel
theorem dX4_init_148 : decode cX4_init 148 = .ok (.iconst 0, 1) := by decide +kernel
theorem dX4_init_149 : decode cX4_init 149 = .ok (.istore_n 1, 1) := by decide +kernel
theorem dX4_init_150 : decode cX4_init 150 = .ok (.iload_n 1, 1) := by decide +kernel
theorem dX4_init_151 : decode cX4_init 151 = .ok (.aload_n 0, 1) := by decide +kernel
theorem dX4_init_152 : decode cX4_init 152 = .ok (.getfield 51, 3) := by decide +kernel
theorem dX4_init_155 : decode cX4_init 155 = .ok (.arraylength, 1) := by decide +kernel
theorem dX4_init_156 : decode cX4_init 156 = .ok (.if_icmp .ge 22, 3) := by decide +kernel
theorem dX4_init_159 : decode cX4_init 159 = .ok (.aload_n 0, 1) := by decide +kernel
theorem dX4_init_160 : decode cX4_init 160 = .ok (.getfield 51, 3) := by decide +kernel
theorem dX4_init_163 : decode cX4_init 163 = .ok (.iload_n 1, 1) := by decide +kernel
theorem dX4_init_164 : decode cX4_init 164 = .ok (.new 31, 3) := by decide +kernel
theorem dX4_init_167 : decode cX4_init 167 = .ok (.dup, 1) := by decide +kernel
theorem dX4_init_168 : decode cX4_init 168 = .ok (.invokespecial 33, 3) := by decide +kernel
theorem dX4_init_171 : decode cX4_init 171 = .ok (.aastore, 1) := by decide +kernel
theorem dX4_init_172 : decode cX4_init 172 = .ok (.iinc 1 1, 3) := by decide +kernel
theorem dX4_init_175 : decode cX4_init 175 = .ok (.goto (-25), 3) := by decide +kernel
theorem dX4_init_178 : decode cX4_init 178 = .ok (.return_, 1) := by decide +kernel
set_option maxRecDepth 20000 in
theorem ggX4_write_X3_put : GoodIn wsX4_write wsX3_put := goodIn_r _ [5, 6, 7, 22, 23] (by decide +kernel) (by decide +kernel)
set_option maxRecDepth 20000 in
theorem gX4_write_X3_put_n72 : GoodIn wsX4_write (wsX3_put) := ggX4_write_X3_put
theorem dX4_write_0 : decode cX4_write 0 = .ok (.iload_n 1, 1) := by decide +kernel
theorem dX4_write_1 : decode cX4_write 1 = .ok (.ifCond .lt 10, 3) := by decide +kernel
theorem dX4_write_4 : decode cX4_write 4 = .ok (.iload_n 1, 1) := by decide +kernel
theorem dX4_write_5 : decode cX4_write 5 = .ok (.sipush 255, 3) := by decide +kernel
theorem dX4_write_8 : decode cX4_write 8 = .ok (.if_icmp .le 6, 3) := by decide +kernel
theorem dX4_write_11 : decode cX4_write 11 = .ok (.bipush (-2), 2) := by decide +kernel
theorem dX4_write_13 : decode cX4_write 13 = .ok (.ireturn, 1) := by decide +kernel
theorem dX4_write_14 : decode cX4_write 14 = .ok (.aload_n 0, 1) := by decide +kernel
theorem dX4_write_15 : decode cX4_write 15 = .ok (.getfield 10, 3) := by decide +kernel
theorem dX4_write_18 : decode cX4_write 18 = .ok (.iload_n 1, 1) := by decide +kernel
theorem dX4_write_19 : decode cX4_write 19 = .ok (.invokevirtual 72, 3) := by decide +kernel
theorem dX4_write_22 : decode cX4_write 22 = .ok (.ifCond .eq 13, 3) := by decide +kernel
theorem dX4_write_25 : decode cX4_write 25 = .ok (.aload_n 0, 1) := by decide +kernel
theorem dX4_write_26 : decode cX4_write 26 = .ok (.getfield 10, 3) := by decide +kernel
theorem dX4_write_29 : decode cX4_write 29 = .ok (.getfield 76, 3) := by decide +kernel
theorem dX4_write_32 : decode cX4_write 32 = .ok (.goto 5, 3) := by decide +kernel
theorem dX4_write_35 : decode cX4_write 35 = .ok (.bipush (-4), 2) := by decide +kernel
theorem dX4_write_37 : decode cX4_write 37 = .ok (.ireturn, 1) := by decide +kernel
theorem dX4_wipe_0 : decode cX4_wipe 0 = .ok (.aload_n 0, 1) := by decide +kernel
theorem dX4_wipe_1 : decode cX4_wipe 1 = .ok (.getfield 10, 3) := by decide +kernel
theorem dX4_wipe_4 : decode cX4_wipe 4 = .ok (.getfield 76, 3) := by decide +kernel
theorem dX4_wipe_7 : decode cX4_wipe 7 = .ok (.istore_n 1, 1) := by decide +kernel
theorem dX4_wipe_8 : decode cX4_wipe 8 = .ok (.aload_n 0, 1) := by decide +kernel
theorem dX4_wipe_9 : decode cX4_wipe 9 = .ok (.getfield 10, 3) := by decide +kernel
theorem dX4_wipe_12 : decode cX4_wipe 12 = .ok (.iconst 0, 1) := by decide +kernel
theorem dX4_wipe_13 : decode cX4_wipe 13 = .ok (.putfield 76, 3) := by decide +kernel
theorem dX4_wipe_16 : decode cX4_wipe 16 = .ok (.iload_n 1, 1) := by decide +kernel
theorem dX4_wipe_17 : decode cX4_wipe 17 = .ok (.ireturn, 1) := by decide +kernel
set_option maxRecDepth 20000 in
theorem ggX4_fault_X3_firstFault : GoodIn wsX4_fault wsX3_firstFault := goodIn_r _ [5, 6, 7, 8, 9, 3, 10, 11, 12, 13, 14, 29, 30] (by decide +kernel) (by decide +kernel)
set_option maxRecDepth 20000 in
theorem gX4_fault_X3_firstFault_n79 : GoodIn wsX4_fault (wsX3_firstFault) := ggX4_fault_X3_firstFault
theorem dX4_fault_0 : decode cX4_fault 0 = .ok (.aload_n 0, 1) := by decide +kernel
theorem dX4_fault_1 : decode cX4_fault 1 = .ok (.getfield 10, 3) := by decide +kernel
theorem dX4_fault_4 : decode cX4_fault 4 = .ok (.invokevirtual 79, 3) := by decide +kernel
theorem dX4_fault_7 : decode cX4_fault 7 = .ok (.ireturn, 1) := by decide +kernel
set_option maxRecDepth 20000 in
theorem ggX4_treaty_X3_firstFault : GoodIn wsX4_treaty wsX3_firstFault := goodIn_r _ [10, 11, 12, 13, 14, 8, 15, 16, 17, 18, 19, 60, 61] (by decide +kernel) (by decide +kernel)
set_option maxRecDepth 20000 in
theorem gX4_treaty_X3_firstFault_n79 : GoodIn wsX4_treaty (wsX3_firstFault) := ggX4_treaty_X3_firstFault
set_option maxRecDepth 20000 in
theorem ggX4_treaty_X4_readPart : GoodIn wsX4_treaty wsX4_readPart := goodIn_r _ [24, 1, 3, 2, 4, 25, 26, 8, 27, 28, 12, 13, 14, 15, 11, 16, 29, 30, 31, 32, 33, 34, 35, 36, 37, 38, 39, 40, 41, 42, 43, 44, 45, 46, 47, 48, 49, 50, 55, 56, 57, 58, 59, 60, 61, 51, 52, 53, 54] (by decide +kernel) (by decide +kernel)
set_option maxRecDepth 20000 in
theorem gX4_treaty_X4_readPart : GoodIn wsX4_treaty (wsV RX4 92 RX4 yX4_readPart wsX4_readPart) := goodIn_app (goodIn_of _ (by decide +kernel)) ggX4_treaty_X4_readPart
theorem dX4_treaty_0 : decode cX4_treaty 0 = .ok (.aload_n 0, 1) := by decide +kernel
theorem dX4_treaty_1 : decode cX4_treaty 1 = .ok (.getfield 10, 3) := by decide +kernel
theorem dX4_treaty_4 : decode cX4_treaty 4 = .ok (.invokevirtual 79, 3) := by decide +kernel
theorem dX4_treaty_7 : decode cX4_treaty 7 = .ok (.bipush (-9), 2) := by decide +kernel
theorem dX4_treaty_9 : decode cX4_treaty 9 = .ok (.if_icmp .eq 6, 3) := by decide +kernel
theorem dX4_treaty_12 : decode cX4_treaty 12 = .ok (.bipush (-3), 2) := by decide +kernel
theorem dX4_treaty_14 : decode cX4_treaty 14 = .ok (.ireturn, 1) := by decide +kernel
theorem dX4_treaty_15 : decode cX4_treaty 15 = .ok (.aload_n 0, 1) := by decide +kernel
theorem dX4_treaty_16 : decode cX4_treaty 16 = .ok (.iconst 0, 1) := by decide +kernel
theorem dX4_treaty_17 : decode cX4_treaty 17 = .ok (.putfield 27, 3) := by decide +kernel
theorem dX4_treaty_20 : decode cX4_treaty 20 = .ok (.aload_n 0, 1) := by decide +kernel
theorem dX4_treaty_21 : decode cX4_treaty 21 = .ok (.getfield 19, 3) := by decide +kernel
theorem dX4_treaty_24 : decode cX4_treaty 24 = .ok (.iconst 0, 1) := by decide +kernel
theorem dX4_treaty_25 : decode cX4_treaty 25 = .ok (.putfield 83, 3) := by decide +kernel
theorem dX4_treaty_28 : decode cX4_treaty 28 = .ok (.aload_n 0, 1) := by decide +kernel
theorem dX4_treaty_29 : decode cX4_treaty 29 = .ok (.getfield 34, 3) := by decide +kernel
theorem dX4_treaty_32 : decode cX4_treaty 32 = .ok (.iconst 0, 1) := by decide +kernel
theorem dX4_treaty_33 : decode cX4_treaty 33 = .ok (.putfield 86, 3) := by decide +kernel
theorem dX4_treaty_36 : decode cX4_treaty 36 = .ok (.aload_n 0, 1) := by decide +kernel
theorem dX4_treaty_37 : decode cX4_treaty 37 = .ok (.getfield 34, 3) := by decide +kernel
theorem dX4_treaty_40 : decode cX4_treaty 40 = .ok (.iconst 0, 1) := by decide +kernel
theorem dX4_treaty_41 : decode cX4_treaty 41 = .ok (.putfield 89, 3) := by decide +kernel
theorem dX4_treaty_44 : decode cX4_treaty 44 = .ok (.iconst 1, 1) := by decide +kernel
theorem dX4_treaty_45 : decode cX4_treaty 45 = .ok (.istore_n 1, 1) := by decide +kernel
theorem dX4_treaty_46 : decode cX4_treaty 46 = .ok (.iload_n 1, 1) := by decide +kernel
theorem dX4_treaty_47 : decode cX4_treaty 47 = .ok (.aload_n 0, 1) := by decide +kernel
theorem dX4_treaty_48 : decode cX4_treaty 48 = .ok (.getfield 10, 3) := by decide +kernel
theorem dX4_treaty_51 : decode cX4_treaty 51 = .ok (.getfield 76, 3) := by decide +kernel
theorem dX4_treaty_54 : decode cX4_treaty 54 = .ok (.if_icmp .ge 14, 3) := by decide +kernel
theorem dX4_treaty_57 : decode cX4_treaty 57 = .ok (.aload_n 0, 1) := by decide +kernel
theorem dX4_treaty_58 : decode cX4_treaty 58 = .ok (.iload_n 1, 1) := by decide +kernel
theorem dX4_treaty_59 : decode cX4_treaty 59 = .ok (.invokevirtual 92, 3) := by decide +kernel
theorem dX4_treaty_62 : decode cX4_treaty 62 = .ok (.iinc 1 4, 3) := by decide +kernel
theorem dX4_treaty_65 : decode cX4_treaty 65 = .ok (.goto (-19), 3) := by decide +kernel
theorem dX4_treaty_68 : decode cX4_treaty 68 = .ok (.aload_n 0, 1) := by decide +kernel
theorem dX4_treaty_69 : decode cX4_treaty 69 = .ok (.iconst 0, 1) := by decide +kernel
theorem dX4_treaty_70 : decode cX4_treaty 70 = .ok (.putfield 48, 3) := by decide +kernel
theorem dX4_treaty_73 : decode cX4_treaty 73 = .ok (.iconst 0, 1) := by decide +kernel
theorem dX4_treaty_74 : decode cX4_treaty 74 = .ok (.istore_n 1, 1) := by decide +kernel
theorem dX4_treaty_75 : decode cX4_treaty 75 = .ok (.iload_n 1, 1) := by decide +kernel
theorem dX4_treaty_76 : decode cX4_treaty 76 = .ok (.aload_n 0, 1) := by decide +kernel
theorem dX4_treaty_77 : decode cX4_treaty 77 = .ok (.getfield 54, 3) := by decide +kernel
theorem dX4_treaty_80 : decode cX4_treaty 80 = .ok (.arraylength, 1) := by decide +kernel
theorem dX4_treaty_81 : decode cX4_treaty 81 = .ok (.if_icmp .ge 16, 3) := by decide +kernel
theorem dX4_treaty_84 : decode cX4_treaty 84 = .ok (.aload_n 0, 1) := by decide +kernel
theorem dX4_treaty_85 : decode cX4_treaty 85 = .ok (.getfield 54, 3) := by decide +kernel
theorem dX4_treaty_88 : decode cX4_treaty 88 = .ok (.iload_n 1, 1) := by decide +kernel
theorem dX4_treaty_89 : decode cX4_treaty 89 = .ok (.iconst 0, 1) := by decide +kernel
theorem dX4_treaty_90 : decode cX4_treaty 90 = .ok (.bastore, 1) := by decide +kernel
theorem dX4_treaty_91 : decode cX4_treaty 91 = .ok (.iinc 1 1, 3) := by decide +kernel
theorem dX4_treaty_94 : decode cX4_treaty 94 = .ok (.goto (-19), 3) := by decide +kernel
theorem dX4_treaty_97 : decode cX4_treaty 97 = .ok (.bipush 10, 2) := by decide +kernel
theorem dX4_treaty_99 : decode cX4_treaty 99 = .ok (.aload_n 0, 1) := by decide +kernel
theorem dX4_treaty_100 : decode cX4_treaty 100 = .ok (.getfield 27, 3) := by decide +kernel
theorem dX4_treaty_103 : decode cX4_treaty 103 = .ok (.imul, 1) := by decide +kernel
theorem dX4_treaty_104 : decode cX4_treaty 104 = .ok (.aload_n 0, 1) := by decide +kernel
theorem dX4_treaty_105 : decode cX4_treaty 105 = .ok (.getfield 19, 3) := by decide +kernel
theorem dX4_treaty_108 : decode cX4_treaty 108 = .ok (.getfield 83, 3) := by decide +kernel
theorem dX4_treaty_111 : decode cX4_treaty 111 = .ok (.iadd, 1) := by decide +kernel
theorem dX4_treaty_112 : decode cX4_treaty 112 = .ok (.ireturn, 1) := by decide +kernel
theorem dX4_about_0 : decode cX4_about 0 = .ok (.iload_n 1, 1) := by decide +kernel
theorem dX4_about_1 : decode cX4_about 1 = .ok (.tableswitch 93 0 6 #[43, 48, 56, 64, 72, 77, 85], 43) := by decide +kernel
theorem dX4_about_44 : decode cX4_about 44 = .ok (.aload_n 0, 1) := by decide +kernel
theorem dX4_about_45 : decode cX4_about 45 = .ok (.getfield 27, 3) := by decide +kernel
theorem dX4_about_48 : decode cX4_about 48 = .ok (.ireturn, 1) := by decide +kernel
theorem dX4_about_49 : decode cX4_about 49 = .ok (.aload_n 0, 1) := by decide +kernel
theorem dX4_about_50 : decode cX4_about 50 = .ok (.getfield 19, 3) := by decide +kernel
theorem dX4_about_53 : decode cX4_about 53 = .ok (.getfield 83, 3) := by decide +kernel
theorem dX4_about_56 : decode cX4_about 56 = .ok (.ireturn, 1) := by decide +kernel
theorem dX4_about_57 : decode cX4_about 57 = .ok (.aload_n 0, 1) := by decide +kernel
theorem dX4_about_58 : decode cX4_about 58 = .ok (.getfield 34, 3) := by decide +kernel
theorem dX4_about_61 : decode cX4_about 61 = .ok (.getfield 86, 3) := by decide +kernel
theorem dX4_about_64 : decode cX4_about 64 = .ok (.ireturn, 1) := by decide +kernel
theorem dX4_about_65 : decode cX4_about 65 = .ok (.aload_n 0, 1) := by decide +kernel
theorem dX4_about_66 : decode cX4_about 66 = .ok (.getfield 34, 3) := by decide +kernel
theorem dX4_about_69 : decode cX4_about 69 = .ok (.getfield 89, 3) := by decide +kernel
theorem dX4_about_72 : decode cX4_about 72 = .ok (.ireturn, 1) := by decide +kernel
theorem dX4_about_73 : decode cX4_about 73 = .ok (.aload_n 0, 1) := by decide +kernel
theorem dX4_about_74 : decode cX4_about 74 = .ok (.getfield 48, 3) := by decide +kernel
theorem dX4_about_77 : decode cX4_about 77 = .ok (.ireturn, 1) := by decide +kernel
theorem dX4_about_78 : decode cX4_about 78 = .ok (.aload_n 0, 1) := by decide +kernel
theorem dX4_about_79 : decode cX4_about 79 = .ok (.getfield 61, 3) := by decide +kernel
theorem dX4_about_82 : decode cX4_about 82 = .ok (.getfield 96, 3) := by decide +kernel
theorem dX4_about_85 : decode cX4_about 85 = .ok (.ireturn, 1) := by decide +kernel
theorem dX4_about_86 : decode cX4_about 86 = .ok (.aload_n 0, 1) := by decide +kernel
theorem dX4_about_87 : decode cX4_about 87 = .ok (.getfield 10, 3) := by decide +kernel
theorem dX4_about_90 : decode cX4_about 90 = .ok (.getfield 76, 3) := by decide +kernel
theorem dX4_about_93 : decode cX4_about 93 = .ok (.ireturn, 1) := by decide +kernel
theorem dX4_about_94 : decode cX4_about 94 = .ok (.bipush (-2), 2) := by decide +kernel
theorem dX4_about_96 : decode cX4_about 96 = .ok (.ireturn, 1) := by decide +kernel
set_option maxRecDepth 20000 in
theorem ggX4_article_X4_isArticle : GoodIn wsX4_article wsX4_isArticle := goodIn_r _ [6, 1, 33, 34, 35, 36, 37, 38, 39, 40, 41, 42, 43, 44, 45, 46, 47, 48, 49, 50] (by decide +kernel) (by decide +kernel)
set_option maxRecDepth 20000 in
theorem gX4_article_X4_isArticle : GoodIn wsX4_article (wsV RX4 97 RX4 yX4_isArticle wsX4_isArticle) := goodIn_app (goodIn_of _ (by decide +kernel)) ggX4_article_X4_isArticle
set_option maxRecDepth 20000 in
theorem ggX4_article_X4_mulesThatKnow : GoodIn wsX4_article wsX4_mulesThatKnow := goodIn_r _ [10, 11, 12, 13, 14, 15, 5, 16, 17, 18, 19, 20, 21, 22, 23, 24, 1, 25, 26, 27, 28, 29, 30, 31, 32, 33, 34, 35, 36, 37, 38, 39, 40, 41, 42, 43, 44, 45, 46, 51, 52, 53, 54, 55, 47, 48, 49, 50] (by decide +kernel) (by decide +kernel)
set_option maxRecDepth 20000 in
theorem gX4_article_X4_mulesThatKnow : GoodIn wsX4_article (wsV RX4 109 RX4 yX4_mulesThatKnow wsX4_mulesThatKnow) := goodIn_app (goodIn_of _ (by decide +kernel)) ggX4_article_X4_mulesThatKnow
theorem dX4_article_0 : decode cX4_article 0 = .ok (.aload_n 0, 1) := by decide +kernel
theorem dX4_article_1 : decode cX4_article 1 = .ok (.iload_n 1, 1) := by decide +kernel
theorem dX4_article_2 : decode cX4_article 2 = .ok (.invokevirtual 97, 3) := by decide +kernel
theorem dX4_article_5 : decode cX4_article 5 = .ok (.ifCond .ne 5, 3) := by decide +kernel
theorem dX4_article_8 : decode cX4_article 8 = .ok (.iconst (-1), 1) := by decide +kernel
theorem dX4_article_9 : decode cX4_article 9 = .ok (.ireturn, 1) := by decide +kernel
theorem dX4_article_10 : decode cX4_article 10 = .ok (.iload_n 2, 1) := by decide +kernel
theorem dX4_article_11 : decode cX4_article 11 = .ok (.tableswitch 65 0 3 #[29, 39, 49, 59], 29) := by decide +kernel
theorem dX4_article_40 : decode cX4_article 40 = .ok (.aload_n 0, 1) := by decide +kernel
theorem dX4_article_41 : decode cX4_article 41 = .ok (.getfield 19, 3) := by decide +kernel
theorem dX4_article_44 : decode cX4_article 44 = .ok (.getfield 100, 3) := by decide +kernel
theorem dX4_article_47 : decode cX4_article 47 = .ok (.iload_n 1, 1) := by decide +kernel
theorem dX4_article_48 : decode cX4_article 48 = .ok (.iaload, 1) := by decide +kernel
theorem dX4_article_49 : decode cX4_article 49 = .ok (.ireturn, 1) := by decide +kernel
theorem dX4_article_50 : decode cX4_article 50 = .ok (.aload_n 0, 1) := by decide +kernel
theorem dX4_article_51 : decode cX4_article 51 = .ok (.getfield 19, 3) := by decide +kernel
theorem dX4_article_54 : decode cX4_article 54 = .ok (.getfield 103, 3) := by decide +kernel
theorem dX4_article_57 : decode cX4_article 57 = .ok (.iload_n 1, 1) := by decide +kernel
theorem dX4_article_58 : decode cX4_article 58 = .ok (.iaload, 1) := by decide +kernel
theorem dX4_article_59 : decode cX4_article 59 = .ok (.ireturn, 1) := by decide +kernel
theorem dX4_article_60 : decode cX4_article 60 = .ok (.aload_n 0, 1) := by decide +kernel
theorem dX4_article_61 : decode cX4_article 61 = .ok (.getfield 19, 3) := by decide +kernel
theorem dX4_article_64 : decode cX4_article 64 = .ok (.getfield 106, 3) := by decide +kernel
theorem dX4_article_67 : decode cX4_article 67 = .ok (.iload_n 1, 1) := by decide +kernel
theorem dX4_article_68 : decode cX4_article 68 = .ok (.iaload, 1) := by decide +kernel
theorem dX4_article_69 : decode cX4_article 69 = .ok (.ireturn, 1) := by decide +kernel
theorem dX4_article_70 : decode cX4_article 70 = .ok (.aload_n 0, 1) := by decide +kernel
theorem dX4_article_71 : decode cX4_article 71 = .ok (.iload_n 1, 1) := by decide +kernel
theorem dX4_article_72 : decode cX4_article 72 = .ok (.invokevirtual 109, 3) := by decide +kernel
theorem dX4_article_75 : decode cX4_article 75 = .ok (.ireturn, 1) := by decide +kernel
theorem dX4_article_76 : decode cX4_article 76 = .ok (.bipush (-2), 2) := by decide +kernel
theorem dX4_article_78 : decode cX4_article 78 = .ok (.ireturn, 1) := by decide +kernel
set_option maxRecDepth 20000 in
theorem ggX4_mule_X4_isMule : GoodIn wsX4_mule wsX4_isMule := goodIn_r _ [7, 8, 26, 27, 28, 29, 30, 31, 32, 33, 34, 35, 36, 37, 38, 39] (by decide +kernel) (by decide +kernel)
set_option maxRecDepth 20000 in
theorem gX4_mule_X4_isMule : GoodIn wsX4_mule (wsV RX4 113 RX4 yX4_isMule wsX4_isMule) := goodIn_app (goodIn_of _ (by decide +kernel)) ggX4_mule_X4_isMule
set_option maxRecDepth 20000 in
theorem ggX4_mule_X4_known : GoodIn wsX4_mule wsX4_known := goodIn_r _ [12, 3, 4, 5, 6, 7, 8, 13, 14, 15, 16, 17, 18, 19, 20, 21, 22, 23, 24, 25, 40, 41, 42, 43, 44, 26, 27, 28, 29, 30, 31, 32, 33, 34, 35, 36, 37, 38, 39, 45, 46, 47, 48] (by decide +kernel) (by decide +kernel)
set_option maxRecDepth 20000 in
theorem gX4_mule_X4_known : GoodIn wsX4_mule (wsV RX4 123 RX4 yX4_known wsX4_known) := goodIn_app (goodIn_of _ (by decide +kernel)) ggX4_mule_X4_known
theorem dX4_mule_0 : decode cX4_mule 0 = .ok (.aload_n 0, 1) := by decide +kernel
theorem dX4_mule_1 : decode cX4_mule 1 = .ok (.iload_n 1, 1) := by decide +kernel
theorem dX4_mule_2 : decode cX4_mule 2 = .ok (.invokevirtual 113, 3) := by decide +kernel
theorem dX4_mule_5 : decode cX4_mule 5 = .ok (.ifCond .ne 5, 3) := by decide +kernel
theorem dX4_mule_8 : decode cX4_mule 8 = .ok (.iconst (-1), 1) := by decide +kernel
theorem dX4_mule_9 : decode cX4_mule 9 = .ok (.ireturn, 1) := by decide +kernel
theorem dX4_mule_10 : decode cX4_mule 10 = .ok (.iload_n 2, 1) := by decide +kernel
theorem dX4_mule_11 : decode cX4_mule 11 = .ok (.tableswitch 80 0 4 #[33, 43, 50, 60, 70], 33) := by decide +kernel
theorem dX4_mule_44 : decode cX4_mule 44 = .ok (.aload_n 0, 1) := by decide +kernel
theorem dX4_mule_45 : decode cX4_mule 45 = .ok (.getfield 34, 3) := by decide +kernel
theorem dX4_mule_48 : decode cX4_mule 48 = .ok (.getfield 116, 3) := by decide +kernel
theorem dX4_mule_51 : decode cX4_mule 51 = .ok (.iload_n 1, 1) := by decide +kernel
theorem dX4_mule_52 : decode cX4_mule 52 = .ok (.iaload, 1) := by decide +kernel
theorem dX4_mule_53 : decode cX4_mule 53 = .ok (.ireturn, 1) := by decide +kernel
theorem dX4_mule_54 : decode cX4_mule 54 = .ok (.aload_n 0, 1) := by decide +kernel
theorem dX4_mule_55 : decode cX4_mule 55 = .ok (.getfield 23, 3) := by decide +kernel
theorem dX4_mule_58 : decode cX4_mule 58 = .ok (.iload_n 1, 1) := by decide +kernel
theorem dX4_mule_59 : decode cX4_mule 59 = .ok (.iaload, 1) := by decide +kernel
theorem dX4_mule_60 : decode cX4_mule 60 = .ok (.ireturn, 1) := by decide +kernel
theorem dX4_mule_61 : decode cX4_mule 61 = .ok (.aload_n 0, 1) := by decide +kernel
theorem dX4_mule_62 : decode cX4_mule 62 = .ok (.getfield 34, 3) := by decide +kernel
theorem dX4_mule_65 : decode cX4_mule 65 = .ok (.getfield 117, 3) := by decide +kernel
theorem dX4_mule_68 : decode cX4_mule 68 = .ok (.iload_n 1, 1) := by decide +kernel
theorem dX4_mule_69 : decode cX4_mule 69 = .ok (.iaload, 1) := by decide +kernel
theorem dX4_mule_70 : decode cX4_mule 70 = .ok (.ireturn, 1) := by decide +kernel
theorem dX4_mule_71 : decode cX4_mule 71 = .ok (.aload_n 0, 1) := by decide +kernel
theorem dX4_mule_72 : decode cX4_mule 72 = .ok (.getfield 34, 3) := by decide +kernel
theorem dX4_mule_75 : decode cX4_mule 75 = .ok (.getfield 120, 3) := by decide +kernel
theorem dX4_mule_78 : decode cX4_mule 78 = .ok (.iload_n 1, 1) := by decide +kernel
theorem dX4_mule_79 : decode cX4_mule 79 = .ok (.iaload, 1) := by decide +kernel
theorem dX4_mule_80 : decode cX4_mule 80 = .ok (.ireturn, 1) := by decide +kernel
theorem dX4_mule_81 : decode cX4_mule 81 = .ok (.aload_n 0, 1) := by decide +kernel
theorem dX4_mule_82 : decode cX4_mule 82 = .ok (.aload_n 0, 1) := by decide +kernel
theorem dX4_mule_83 : decode cX4_mule 83 = .ok (.getfield 34, 3) := by decide +kernel
theorem dX4_mule_86 : decode cX4_mule 86 = .ok (.iload_n 1, 1) := by decide +kernel
theorem dX4_mule_87 : decode cX4_mule 87 = .ok (.invokevirtual 123, 3) := by decide +kernel
theorem dX4_mule_90 : decode cX4_mule 90 = .ok (.ireturn, 1) := by decide +kernel
theorem dX4_mule_91 : decode cX4_mule 91 = .ok (.bipush (-2), 2) := by decide +kernel
theorem dX4_mule_93 : decode cX4_mule 93 = .ok (.ireturn, 1) := by decide +kernel
set_option maxRecDepth 20000 in
theorem ggX4_by_X4_stepRefusal : GoodIn wsX4_by wsX4_stepRefusal := goodIn_r _ [6, 1, 7, 8, 9, 5, 10, 11, 12, 13, 14, 15, 16, 17, 18, 19, 20, 46, 47, 48, 49, 50, 51, 52, 53, 54, 55, 56, 57, 58, 59, 60, 61, 62, 63, 64] (by decide +kernel) (by decide +kernel)
set_option maxRecDepth 20000 in
theorem gX4_by_X4_stepRefusal : GoodIn wsX4_by (wsV RX4 127 RX4 yX4_stepRefusal wsX4_stepRefusal) := goodIn_app (goodIn_of _ (by decide +kernel)) ggX4_by_X4_stepRefusal
set_option maxRecDepth 20000 in
theorem ggX4_by_X4_forbidders : GoodIn wsX4_by wsX4_forbidders := goodIn_r _ [24, 7, 8, 9, 5, 10, 11, 25, 26, 27, 28, 29, 30, 15, 16, 17, 18, 19, 20, 31, 32, 33, 34, 35, 36, 37, 38, 39, 40, 41, 42, 43, 44, 45, 60, 61, 62, 63, 64, 46, 47, 48, 49, 50, 51, 52, 53, 54, 55, 56, 57, 58, 59, 65, 66, 67, 68] (by decide +kernel) (by decide +kernel)
set_option maxRecDepth 20000 in
theorem gX4_by_X4_forbidders : GoodIn wsX4_by (wsV RX4 131 RX4 yX4_forbidders wsX4_forbidders) := goodIn_app (goodIn_of _ (by decide +kernel)) ggX4_by_X4_forbidders
theorem dX4_by_0 : decode cX4_by 0 = .ok (.aload_n 0, 1) := by decide +kernel
theorem dX4_by_1 : decode cX4_by 1 = .ok (.iload_n 1, 1) := by decide +kernel
theorem dX4_by_2 : decode cX4_by 2 = .ok (.iload_n 2, 1) := by decide +kernel
theorem dX4_by_3 : decode cX4_by 3 = .ok (.invokevirtual 127, 3) := by decide +kernel
theorem dX4_by_6 : decode cX4_by 6 = .ok (.istore_n 3, 1) := by decide +kernel
theorem dX4_by_7 : decode cX4_by 7 = .ok (.iload_n 3, 1) := by decide +kernel
theorem dX4_by_8 : decode cX4_by 8 = .ok (.ifCond .eq 7, 3) := by decide +kernel
theorem dX4_by_11 : decode cX4_by 11 = .ok (.iload_n 3, 1) := by decide +kernel
theorem dX4_by_12 : decode cX4_by 12 = .ok (.goto 13, 3) := by decide +kernel
theorem dX4_by_15 : decode cX4_by 15 = .ok (.aload_n 0, 1) := by decide +kernel
theorem dX4_by_16 : decode cX4_by 16 = .ok (.aload_n 0, 1) := by decide +kernel
theorem dX4_by_17 : decode cX4_by 17 = .ok (.getfield 34, 3) := by decide +kernel
theorem dX4_by_20 : decode cX4_by 20 = .ok (.iload_n 1, 1) := by decide +kernel
theorem dX4_by_21 : decode cX4_by 21 = .ok (.iload_n 2, 1) := by decide +kernel
theorem dX4_by_22 : decode cX4_by 22 = .ok (.invokevirtual 131, 3) := by decide +kernel
theorem dX4_by_25 : decode cX4_by 25 = .ok (.ireturn, 1) := by decide +kernel
set_option maxRecDepth 20000 in
theorem ggX4_balks_X4_stepRefusal : GoodIn wsX4_balks wsX4_stepRefusal := goodIn_r _ [6, 1, 7, 8, 9, 5, 10, 11, 12, 13, 14, 15, 16, 17, 18, 19, 20, 67, 68, 69, 70, 71, 72, 73, 74, 75, 76, 77, 78, 79, 80, 81, 82, 83, 84, 85] (by decide +kernel) (by decide +kernel)
set_option maxRecDepth 20000 in
theorem gX4_balks_X4_stepRefusal : GoodIn wsX4_balks (wsV RX4 127 RX4 yX4_stepRefusal wsX4_stepRefusal) := goodIn_app (goodIn_of _ (by decide +kernel)) ggX4_balks_X4_stepRefusal
set_option maxRecDepth 20000 in
theorem ggX4_balks_X4_balkers : GoodIn wsX4_balks wsX4_balkers := goodIn_r _ [24, 25, 26, 27, 5, 28, 7, 8, 9, 10, 11, 29, 30, 31, 32, 33, 34, 15, 16, 17, 18, 19, 20, 35, 36, 37, 38, 39, 40, 41, 42, 43, 44, 45, 46, 47, 48, 49, 50, 51, 52, 53, 54, 55, 56, 57, 58, 59, 60, 61, 62, 63, 81, 82, 83, 84, 85, 67, 68, 69, 70, 71, 72, 73, 74, 75, 76, 77, 78, 79, 80, 86, 87, 88, 89] (by decide +kernel) (by decide +kernel)
set_option maxRecDepth 20000 in
theorem gX4_balks_X4_balkers : GoodIn wsX4_balks (wsV RX4 135 RX4 yX4_balkers wsX4_balkers) := goodIn_app (goodIn_of _ (by decide +kernel)) ggX4_balks_X4_balkers
set_option maxRecDepth 20000 in
theorem ggX4_balks_X4_firstOf : GoodIn wsX4_balks wsX4_firstOf := goodIn_r _ [66] (by decide +kernel) (by decide +kernel)
set_option maxRecDepth 20000 in
theorem gX4_balks_X4_firstOf : GoodIn wsX4_balks (va_wsS RX4 138 yX4_firstOf wsX4_firstOf) := goodIn_app (goodIn_of _ (by decide +kernel)) ggX4_balks_X4_firstOf
theorem dX4_balks_0 : decode cX4_balks 0 = .ok (.aload_n 0, 1) := by decide +kernel
theorem dX4_balks_1 : decode cX4_balks 1 = .ok (.iload_n 1, 1) := by decide +kernel
theorem dX4_balks_2 : decode cX4_balks 2 = .ok (.iload_n 2, 1) := by decide +kernel
theorem dX4_balks_3 : decode cX4_balks 3 = .ok (.invokevirtual 127, 3) := by decide +kernel
theorem dX4_balks_6 : decode cX4_balks 6 = .ok (.istore_n 3, 1) := by decide +kernel
theorem dX4_balks_7 : decode cX4_balks 7 = .ok (.iload_n 3, 1) := by decide +kernel
theorem dX4_balks_8 : decode cX4_balks 8 = .ok (.ifCond .eq 7, 3) := by decide +kernel
theorem dX4_balks_11 : decode cX4_balks 11 = .ok (.iload_n 3, 1) := by decide +kernel
theorem dX4_balks_12 : decode cX4_balks 12 = .ok (.goto 16, 3) := by decide +kernel
theorem dX4_balks_15 : decode cX4_balks 15 = .ok (.aload_n 0, 1) := by decide +kernel
theorem dX4_balks_16 : decode cX4_balks 16 = .ok (.aload_n 0, 1) := by decide +kernel
theorem dX4_balks_17 : decode cX4_balks 17 = .ok (.getfield 34, 3) := by decide +kernel
theorem dX4_balks_20 : decode cX4_balks 20 = .ok (.iload_n 1, 1) := by decide +kernel
theorem dX4_balks_21 : decode cX4_balks 21 = .ok (.iload_n 2, 1) := by decide +kernel
theorem dX4_balks_22 : decode cX4_balks 22 = .ok (.invokevirtual 135, 3) := by decide +kernel
theorem dX4_balks_25 : decode cX4_balks 25 = .ok (.invokestatic 138, 3) := by decide +kernel
theorem dX4_balks_28 : decode cX4_balks 28 = .ok (.ireturn, 1) := by decide +kernel
set_option maxRecDepth 20000 in
theorem ggX4_step_X4_stepRefusal : GoodIn wsX4_step wsX4_stepRefusal := goodIn_r _ [6, 1, 7, 8, 9, 5, 10, 11, 12, 13, 14, 15, 16, 17, 18, 19, 20, 85, 86, 87, 88, 89, 90, 91, 92, 93, 94, 95, 96, 97, 98, 99, 100, 101, 102, 103] (by decide +kernel) (by decide +kernel)
set_option maxRecDepth 20000 in
theorem gX4_step_X4_stepRefusal : GoodIn wsX4_step (wsV RX4 127 RX4 yX4_stepRefusal wsX4_stepRefusal) := goodIn_app (goodIn_of _ (by decide +kernel)) ggX4_step_X4_stepRefusal
set_option maxRecDepth 20000 in
theorem ggX4_step_X4_wouldGo : GoodIn wsX4_step wsX4_wouldGo := goodIn_r _ [24, 25, 26, 27, 5, 28, 7, 8, 9, 10, 11, 29, 30, 31, 32, 33, 34, 15, 16, 17, 18, 19, 20, 35, 36, 37, 38, 39, 40, 41, 42, 43, 44, 45, 46, 47, 48, 49, 50, 51, 52, 53, 54, 55, 56, 57, 58, 59, 60, 61, 62, 63, 99, 100, 101, 102, 103, 85, 86, 87, 88, 89, 90, 91, 92, 93, 94, 95, 96, 97, 98, 104, 105, 106, 107] (by decide +kernel) (by decide +kernel)
set_option maxRecDepth 20000 in
theorem gX4_step_X4_wouldGo : GoodIn wsX4_step (wsV RX4 141 RX4 yX4_wouldGo wsX4_wouldGo) := goodIn_app (goodIn_of _ (by decide +kernel)) ggX4_step_X4_wouldGo
set_option maxRecDepth 20000 in
theorem ggX4_step_X4_rememberAct : GoodIn wsX4_step wsX4_rememberAct := goodIn_r _ [67, 68, 69, 1, 70, 71, 72, 5, 73, 85, 86, 87, 88, 89, 90, 91, 92, 93, 94, 95, 96, 97, 98, 99, 100, 101, 102, 103] (by decide +kernel) (by decide +kernel)
set_option maxRecDepth 20000 in
theorem gX4_step_X4_rememberAct : GoodIn wsX4_step (wsV RX4 145 RX4 yX4_rememberAct wsX4_rememberAct) := goodIn_app (goodIn_of _ (by decide +kernel)) ggX4_step_X4_rememberAct
set_option maxRecDepth 20000 in
theorem ggX4_step_X4_go : GoodIn wsX4_step wsX4_go := goodIn_r _ [77, 25, 26, 27, 5, 28, 7, 8, 9, 10, 11, 29, 30, 31, 32, 33, 34, 15, 16, 17, 18, 19, 20, 35, 36, 37, 38, 39, 40, 41, 42, 43, 44, 45, 46, 47, 48, 49, 78, 79, 80, 81, 82, 83, 84, 99, 100, 101, 102, 103, 85, 86, 87, 88, 89, 90, 91, 92, 93, 94, 95, 96, 97, 98, 104, 105, 106, 107] (by decide +kernel) (by decide +kernel)
set_option maxRecDepth 20000 in
theorem gX4_step_X4_go : GoodIn wsX4_step (wsV RX4 148 RX4 yX4_go wsX4_go) := goodIn_app (goodIn_of _ (by decide +kernel)) ggX4_step_X4_go
theorem dX4_step_0 : decode cX4_step 0 = .ok (.aload_n 0, 1) := by decide +kernel
theorem dX4_step_1 : decode cX4_step 1 = .ok (.iload_n 1, 1) := by decide +kernel
theorem dX4_step_2 : decode cX4_step 2 = .ok (.iload_n 2, 1) := by decide +kernel
theorem dX4_step_3 : decode cX4_step 3 = .ok (.invokevirtual 127, 3) := by decide +kernel
theorem dX4_step_6 : decode cX4_step 6 = .ok (.istore_n 3, 1) := by decide +kernel
theorem dX4_step_7 : decode cX4_step 7 = .ok (.iload_n 3, 1) := by decide +kernel
theorem dX4_step_8 : decode cX4_step 8 = .ok (.ifCond .eq 5, 3) := by decide +kernel
theorem dX4_step_11 : decode cX4_step 11 = .ok (.iload_n 3, 1) := by decide +kernel
theorem dX4_step_12 : decode cX4_step 12 = .ok (.ireturn, 1) := by decide +kernel
theorem dX4_step_13 : decode cX4_step 13 = .ok (.aload_n 0, 1) := by decide +kernel
theorem dX4_step_14 : decode cX4_step 14 = .ok (.aload_n 0, 1) := by decide +kernel
theorem dX4_step_15 : decode cX4_step 15 = .ok (.getfield 34, 3) := by decide +kernel
theorem dX4_step_18 : decode cX4_step 18 = .ok (.iload_n 1, 1) := by decide +kernel
theorem dX4_step_19 : decode cX4_step 19 = .ok (.iload_n 2, 1) := by decide +kernel
theorem dX4_step_20 : decode cX4_step 20 = .ok (.invokevirtual 141, 3) := by decide +kernel
theorem dX4_step_23 : decode cX4_step 23 = .ok (.ifCond .ne 6, 3) := by decide +kernel
theorem dX4_step_26 : decode cX4_step 26 = .ok (.bipush (-3), 2) := by decide +kernel
theorem dX4_step_28 : decode cX4_step 28 = .ok (.ireturn, 1) := by decide +kernel
theorem dX4_step_29 : decode cX4_step 29 = .ok (.aload_n 0, 1) := by decide +kernel
theorem dX4_step_30 : decode cX4_step 30 = .ok (.invokevirtual 145, 3) := by decide +kernel
theorem dX4_step_33 : decode cX4_step 33 = .ok (.aload_n 0, 1) := by decide +kernel
theorem dX4_step_34 : decode cX4_step 34 = .ok (.aload_n 0, 1) := by decide +kernel
theorem dX4_step_35 : decode cX4_step 35 = .ok (.getfield 34, 3) := by decide +kernel
theorem dX4_step_38 : decode cX4_step 38 = .ok (.iload_n 1, 1) := by decide +kernel
theorem dX4_step_39 : decode cX4_step 39 = .ok (.iload_n 2, 1) := by decide +kernel
theorem dX4_step_40 : decode cX4_step 40 = .ok (.invokevirtual 148, 3) := by decide +kernel
theorem dX4_step_43 : decode cX4_step 43 = .ok (.aload_n 0, 1) := by decide +kernel
theorem dX4_step_44 : decode cX4_step 44 = .ok (.getfield 34, 3) := by decide +kernel
theorem dX4_step_47 : decode cX4_step 47 = .ok (.getfield 116, 3) := by decide +kernel
theorem dX4_step_50 : decode cX4_step 50 = .ok (.iload_n 1, 1) := by decide +kernel
theorem dX4_step_51 : decode cX4_step 51 = .ok (.iaload, 1) := by decide +kernel
theorem dX4_step_52 : decode cX4_step 52 = .ok (.ireturn, 1) := by decide +kernel
set_option maxRecDepth 20000 in
theorem ggX4_pause_X4_rememberAct : GoodIn wsX4_pause wsX4_rememberAct := goodIn_r _ [6, 7, 8, 1, 9, 10, 11, 5, 12, 13, 14, 15, 16, 17, 18, 19, 20, 21, 22, 23, 24, 25, 26, 27, 28, 29, 30, 31] (by decide +kernel) (by decide +kernel)
set_option maxRecDepth 20000 in
theorem gX4_pause_X4_rememberAct : GoodIn wsX4_pause (wsV RX4 145 RX4 yX4_rememberAct wsX4_rememberAct) := goodIn_app (goodIn_of _ (by decide +kernel)) ggX4_pause_X4_rememberAct
theorem dX4_pause_0 : decode cX4_pause 0 = .ok (.aload_n 0, 1) := by decide +kernel
theorem dX4_pause_1 : decode cX4_pause 1 = .ok (.invokevirtual 145, 3) := by decide +kernel
theorem dX4_pause_4 : decode cX4_pause 4 = .ok (.aload_n 0, 1) := by decide +kernel
theorem dX4_pause_5 : decode cX4_pause 5 = .ok (.getfield 34, 3) := by decide +kernel
theorem dX4_pause_8 : decode cX4_pause 8 = .ok (.dup, 1) := by decide +kernel
theorem dX4_pause_9 : decode cX4_pause 9 = .ok (.getfield 86, 3) := by decide +kernel
theorem dX4_pause_12 : decode cX4_pause 12 = .ok (.iconst 1, 1) := by decide +kernel
theorem dX4_pause_13 : decode cX4_pause 13 = .ok (.iadd, 1) := by decide +kernel
theorem dX4_pause_14 : decode cX4_pause 14 = .ok (.putfield 86, 3) := by decide +kernel
theorem dX4_pause_17 : decode cX4_pause 17 = .ok (.aload_n 0, 1) := by decide +kernel
theorem dX4_pause_18 : decode cX4_pause 18 = .ok (.getfield 34, 3) := by decide +kernel
theorem dX4_pause_21 : decode cX4_pause 21 = .ok (.getfield 86, 3) := by decide +kernel
theorem dX4_pause_24 : decode cX4_pause 24 = .ok (.ireturn, 1) := by decide +kernel
set_option maxRecDepth 20000 in
theorem ggX4_show_X4_isMule : GoodIn wsX4_show wsX4_isMule := goodIn_r _ [6, 7, 46, 47, 48, 49, 50, 51, 52, 53, 54, 55, 56, 57, 58, 59] (by decide +kernel) (by decide +kernel)
set_option maxRecDepth 20000 in
theorem gX4_show_X4_isMule : GoodIn wsX4_show (wsV RX4 113 RX4 yX4_isMule wsX4_isMule) := goodIn_app (goodIn_of _ (by decide +kernel)) ggX4_show_X4_isMule
set_option maxRecDepth 20000 in
theorem ggX4_show_X4_isArticle : GoodIn wsX4_show wsX4_isArticle := goodIn_r _ [11, 12, 46, 47, 48, 49, 50, 51, 52, 53, 54, 55, 56, 57, 58, 59, 65, 66, 67, 68] (by decide +kernel) (by decide +kernel)
set_option maxRecDepth 20000 in
theorem gX4_show_X4_isArticle : GoodIn wsX4_show (wsV RX4 97 RX4 yX4_isArticle wsX4_isArticle) := goodIn_app (goodIn_of _ (by decide +kernel)) ggX4_show_X4_isArticle
set_option maxRecDepth 20000 in
theorem ggX4_show_X4_known : GoodIn wsX4_show wsX4_known := goodIn_r _ [16, 2, 3, 4, 5, 6, 7, 17, 18, 19, 20, 12, 21, 22, 23, 24, 25, 26, 27, 28, 60, 61, 62, 63, 64, 46, 47, 48, 49, 50, 51, 52, 53, 54, 55, 56, 57, 58, 59, 65, 66, 67, 68] (by decide +kernel) (by decide +kernel)
set_option maxRecDepth 20000 in
theorem gX4_show_X4_known : GoodIn wsX4_show (wsV RX4 123 RX4 yX4_known wsX4_known) := goodIn_app (goodIn_of _ (by decide +kernel)) ggX4_show_X4_known
set_option maxRecDepth 20000 in
theorem ggX4_show_X4_rememberAct : GoodIn wsX4_show wsX4_rememberAct := goodIn_r _ [32, 33, 34, 1, 35, 36, 37, 5, 38, 46, 47, 48, 49, 50, 51, 52, 53, 54, 55, 56, 57, 58, 59, 60, 61, 62, 63, 64] (by decide +kernel) (by decide +kernel)
set_option maxRecDepth 20000 in
theorem gX4_show_X4_rememberAct : GoodIn wsX4_show (wsV RX4 145 RX4 yX4_rememberAct wsX4_rememberAct) := goodIn_app (goodIn_of _ (by decide +kernel)) ggX4_show_X4_rememberAct
set_option maxRecDepth 20000 in
theorem ggX4_show_J6_bitCount_0f7a4 : GoodIn wsX4_show wsJ6_bitCount_0f7a4 := goodIn_r _ [42, 43, 44, 45] (by decide +kernel) (by decide +kernel)
set_option maxRecDepth 20000 in
theorem gX4_show_J6_bitCount_0f7a4 : GoodIn wsX4_show (va_wsS RX4 152 yJ6_bitCount_0f7a4 wsJ6_bitCount_0f7a4) := goodIn_app (goodIn_of _ (by decide +kernel)) ggX4_show_J6_bitCount_0f7a4
theorem dX4_show_0 : decode cX4_show 0 = .ok (.aload_n 0, 1) := by decide +kernel
theorem dX4_show_1 : decode cX4_show 1 = .ok (.iload_n 1, 1) := by decide +kernel
theorem dX4_show_2 : decode cX4_show 2 = .ok (.invokevirtual 113, 3) := by decide +kernel
theorem dX4_show_5 : decode cX4_show 5 = .ok (.ifCond .eq 19, 3) := by decide +kernel
theorem dX4_show_8 : decode cX4_show 8 = .ok (.aload_n 0, 1) := by decide +kernel
theorem dX4_show_9 : decode cX4_show 9 = .ok (.iload_n 2, 1) := by decide +kernel
theorem dX4_show_10 : decode cX4_show 10 = .ok (.invokevirtual 113, 3) := by decide +kernel

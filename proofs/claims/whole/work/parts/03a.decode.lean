theorem dX0_init_0 : decode cX0_init 0 = .ok (.aload_n 0, 1) := by decide +kernel
theorem dX0_init_1 : decode cX0_init 1 = .ok (.invokespecial 3, 3) := by decide +kernel
theorem dX0_init_4 : decode cX0_init 4 = .ok (.aload_n 0, 1) := by decide +kernel
theorem dX0_init_5 : decode cX0_init 5 = .ok (.bipush 6, 2) := by decide +kernel
theorem dX0_init_7 : decode cX0_init 7 = .ok (.newarray .int, 2) := by decide +kernel
theorem dX0_init_9 : decode cX0_init 9 = .ok (.putfield 9, 3) := by decide +kernel
theorem dX0_init_12 : decode cX0_init 12 = .ok (.aload_n 0, 1) := by decide +kernel
theorem dX0_init_13 : decode cX0_init 13 = .ok (.bipush 6, 2) := by decide +kernel
theorem dX0_init_15 : decode cX0_init 15 = .ok (.newarray .int, 2) := by decide +kernel
theorem dX0_init_17 : decode cX0_init 17 = .ok (.putfield 15, 3) := by decide +kernel
theorem dX0_init_20 : decode cX0_init 20 = .ok (.aload_n 0, 1) := by decide +kernel
theorem dX0_init_21 : decode cX0_init 21 = .ok (.bipush 6, 2) := by decide +kernel
theorem dX0_init_23 : decode cX0_init 23 = .ok (.newarray .int, 2) := by decide +kernel
theorem dX0_init_25 : decode cX0_init 25 = .ok (.putfield 18, 3) := by decide +kernel
theorem dX0_init_28 : decode cX0_init 28 = .ok (.aload_n 0, 1) := by decide +kernel
theorem dX0_init_29 : decode cX0_init 29 = .ok (.bipush 7, 2) := by decide +kernel
theorem dX0_init_31 : decode cX0_init 31 = .ok (.newarray .int, 2) := by decide +kernel
theorem dX0_init_33 : decode cX0_init 33 = .ok (.putfield 21, 3) := by decide +kernel
theorem dX0_init_36 : decode cX0_init 36 = .ok (.return_, 1) := by decide +kernel
theorem dX0_begin_0 : decode cX0_begin 0 = .ok (.aload_n 0, 1) := by decide +kernel
theorem dX0_begin_1 : decode cX0_begin 1 = .ok (.iconst 0, 1) := by decide +kernel
theorem dX0_begin_2 : decode cX0_begin 2 = .ok (.putfield 24, 3) := by decide +kernel
theorem dX0_begin_5 : decode cX0_begin 5 = .ok (.aload_n 0, 1) := by decide +kernel
theorem dX0_begin_6 : decode cX0_begin 6 = .ok (.iload_n 1, 1) := by decide +kernel
theorem dX0_begin_7 : decode cX0_begin 7 = .ok (.putfield 28, 3) := by decide +kernel
theorem dX0_begin_10 : decode cX0_begin 10 = .ok (.return_, 1) := by decide +kernel
theorem dX0_tell_0 : decode cX0_tell 0 = .ok (.aload_n 0, 1) := by decide +kernel
theorem dX0_tell_1 : decode cX0_tell 1 = .ok (.getfield 24, 3) := by decide +kernel
theorem dX0_tell_4 : decode cX0_tell 4 = .ok (.bipush 6, 2) := by decide +kernel
theorem dX0_tell_6 : decode cX0_tell 6 = .ok (.if_icmp .lt 4, 3) := by decide +kernel
theorem dX0_tell_9 : decode cX0_tell 9 = .ok (.return_, 1) := by decide +kernel
theorem dX0_tell_10 : decode cX0_tell 10 = .ok (.aload_n 0, 1) := by decide +kernel
theorem dX0_tell_11 : decode cX0_tell 11 = .ok (.getfield 9, 3) := by decide +kernel
theorem dX0_tell_14 : decode cX0_tell 14 = .ok (.aload_n 0, 1) := by decide +kernel
theorem dX0_tell_15 : decode cX0_tell 15 = .ok (.getfield 24, 3) := by decide +kernel
theorem dX0_tell_18 : decode cX0_tell 18 = .ok (.iload_n 1, 1) := by decide +kernel
theorem dX0_tell_19 : decode cX0_tell 19 = .ok (.iastore, 1) := by decide +kernel
theorem dX0_tell_20 : decode cX0_tell 20 = .ok (.aload_n 0, 1) := by decide +kernel
theorem dX0_tell_21 : decode cX0_tell 21 = .ok (.dup, 1) := by decide +kernel
theorem dX0_tell_22 : decode cX0_tell 22 = .ok (.getfield 24, 3) := by decide +kernel
theorem dX0_tell_25 : decode cX0_tell 25 = .ok (.iconst 1, 1) := by decide +kernel
theorem dX0_tell_26 : decode cX0_tell 26 = .ok (.iadd, 1) := by decide +kernel
theorem dX0_tell_27 : decode cX0_tell 27 = .ok (.putfield 24, 3) := by decide +kernel
theorem dX0_tell_30 : decode cX0_tell 30 = .ok (.return_, 1) := by decide +kernel
theorem dX0_bestDay_0 : decode cX0_bestDay 0 = .ok (.iload_n 1, 1) := by decide +kernel
theorem dX0_bestDay_1 : decode cX0_bestDay 1 = .ok (.ifCond .lt 20, 3) := by decide +kernel
theorem dX0_bestDay_4 : decode cX0_bestDay 4 = .ok (.iload_n 1, 1) := by decide +kernel
theorem dX0_bestDay_5 : decode cX0_bestDay 5 = .ok (.aload_n 0, 1) := by decide +kernel
theorem dX0_bestDay_6 : decode cX0_bestDay 6 = .ok (.getfield 24, 3) := by decide +kernel
theorem dX0_bestDay_9 : decode cX0_bestDay 9 = .ok (.if_icmp .ge 12, 3) := by decide +kernel
theorem dX0_bestDay_12 : decode cX0_bestDay 12 = .ok (.aload_n 0, 1) := by decide +kernel
theorem dX0_bestDay_13 : decode cX0_bestDay 13 = .ok (.getfield 18, 3) := by decide +kernel
theorem dX0_bestDay_16 : decode cX0_bestDay 16 = .ok (.iload_n 1, 1) := by decide +kernel
theorem dX0_bestDay_17 : decode cX0_bestDay 17 = .ok (.iaload, 1) := by decide +kernel
theorem dX0_bestDay_18 : decode cX0_bestDay 18 = .ok (.goto 5, 3) := by decide +kernel
theorem dX0_bestDay_21 : decode cX0_bestDay 21 = .ok (.bipush (-9), 2) := by decide +kernel
theorem dX0_bestDay_23 : decode cX0_bestDay 23 = .ok (.ireturn, 1) := by decide +kernel
theorem dX0_search_0 : decode cX0_search 0 = .ok (.aload_n 0, 1) := by decide +kernel
theorem dX0_search_1 : decode cX0_search 1 = .ok (.ldc 31, 2) := by decide +kernel
theorem dX0_search_3 : decode cX0_search 3 = .ok (.putfield 32, 3) := by decide +kernel
theorem dX0_search_6 : decode cX0_search 6 = .ok (.aload_n 0, 1) := by decide +kernel
theorem dX0_search_7 : decode cX0_search 7 = .ok (.ldc 31, 2) := by decide +kernel
theorem dX0_search_9 : decode cX0_search 9 = .ok (.putfield 35, 3) := by decide +kernel
theorem dX0_search_12 : decode cX0_search 12 = .ok (.aload_n 0, 1) := by decide +kernel
theorem dX0_search_13 : decode cX0_search 13 = .ok (.iconst 0, 1) := by decide +kernel
theorem dX0_search_14 : decode cX0_search 14 = .ok (.iconst 0, 1) := by decide +kernel
theorem dX0_search_15 : decode cX0_search 15 = .ok (.invokevirtual 38, 3) := by decide +kernel
theorem dX0_search_18 : decode cX0_search 18 = .ok (.return_, 1) := by decide +kernel
theorem dX0_tryFrom_0 : decode cX0_tryFrom 0 = .ok (.iload_n 1, 1) := by decide +kernel
theorem dX0_tryFrom_1 : decode cX0_tryFrom 1 = .ok (.aload_n 0, 1) := by decide +kernel
theorem dX0_tryFrom_2 : decode cX0_tryFrom 2 = .ok (.getfield 24, 3) := by decide +kernel
theorem dX0_tryFrom_5 : decode cX0_tryFrom 5 = .ok (.if_icmp .lt 8, 3) := by decide +kernel
theorem dX0_tryFrom_8 : decode cX0_tryFrom 8 = .ok (.aload_n 0, 1) := by decide +kernel
theorem dX0_tryFrom_9 : decode cX0_tryFrom 9 = .ok (.invokevirtual 42, 3) := by decide +kernel
theorem dX0_tryFrom_12 : decode cX0_tryFrom 12 = .ok (.return_, 1) := by decide +kernel
theorem dX0_tryFrom_13 : decode cX0_tryFrom 13 = .ok (.iconst 0, 1) := by decide +kernel
theorem dX0_tryFrom_14 : decode cX0_tryFrom 14 = .ok (.istore_n 3, 1) := by decide +kernel
theorem dX0_tryFrom_15 : decode cX0_tryFrom 15 = .ok (.iload_n 3, 1) := by decide +kernel
theorem dX0_tryFrom_16 : decode cX0_tryFrom 16 = .ok (.iload_n 2, 1) := by decide +kernel
theorem dX0_tryFrom_17 : decode cX0_tryFrom 17 = .ok (.if_icmp .gt 66, 3) := by decide +kernel
theorem dX0_tryFrom_20 : decode cX0_tryFrom 20 = .ok (.iload_n 3, 1) := by decide +kernel
theorem dX0_tryFrom_21 : decode cX0_tryFrom 21 = .ok (.bipush 7, 2) := by decide +kernel
theorem dX0_tryFrom_23 : decode cX0_tryFrom 23 = .ok (.if_icmp .ge 60, 3) := by decide +kernel
theorem dX0_tryFrom_26 : decode cX0_tryFrom 26 = .ok (.aload_n 0, 1) := by decide +kernel
theorem dX0_tryFrom_27 : decode cX0_tryFrom 27 = .ok (.getfield 15, 3) := by decide +kernel
theorem dX0_tryFrom_30 : decode cX0_tryFrom 30 = .ok (.iload_n 1, 1) := by decide +kernel
theorem dX0_tryFrom_31 : decode cX0_tryFrom 31 = .ok (.iload_n 3, 1) := by decide +kernel
theorem dX0_tryFrom_32 : decode cX0_tryFrom 32 = .ok (.iastore, 1) := by decide +kernel
theorem dX0_tryFrom_33 : decode cX0_tryFrom 33 = .ok (.aload_n 0, 1) := by decide +kernel
theorem dX0_tryFrom_34 : decode cX0_tryFrom 34 = .ok (.getfield 21, 3) := by decide +kernel
theorem dX0_tryFrom_37 : decode cX0_tryFrom 37 = .ok (.iload_n 3, 1) := by decide +kernel
theorem dX0_tryFrom_38 : decode cX0_tryFrom 38 = .ok (.dup2, 1) := by decide +kernel
theorem dX0_tryFrom_39 : decode cX0_tryFrom 39 = .ok (.iaload, 1) := by decide +kernel
theorem dX0_tryFrom_40 : decode cX0_tryFrom 40 = .ok (.aload_n 0, 1) := by decide +kernel
theorem dX0_tryFrom_41 : decode cX0_tryFrom 41 = .ok (.getfield 9, 3) := by decide +kernel
theorem dX0_tryFrom_44 : decode cX0_tryFrom 44 = .ok (.iload_n 1, 1) := by decide +kernel
theorem dX0_tryFrom_45 : decode cX0_tryFrom 45 = .ok (.iaload, 1) := by decide +kernel
theorem dX0_tryFrom_46 : decode cX0_tryFrom 46 = .ok (.iadd, 1) := by decide +kernel
theorem dX0_tryFrom_47 : decode cX0_tryFrom 47 = .ok (.iastore, 1) := by decide +kernel
theorem dX0_tryFrom_48 : decode cX0_tryFrom 48 = .ok (.aload_n 0, 1) := by decide +kernel
theorem dX0_tryFrom_49 : decode cX0_tryFrom 49 = .ok (.iload_n 1, 1) := by decide +kernel
theorem dX0_tryFrom_50 : decode cX0_tryFrom 50 = .ok (.iconst 1, 1) := by decide +kernel
theorem dX0_tryFrom_51 : decode cX0_tryFrom 51 = .ok (.iadd, 1) := by decide +kernel
theorem dX0_tryFrom_52 : decode cX0_tryFrom 52 = .ok (.iload_n 2, 1) := by decide +kernel
theorem dX0_tryFrom_53 : decode cX0_tryFrom 53 = .ok (.iload_n 3, 1) := by decide +kernel
theorem dX0_tryFrom_54 : decode cX0_tryFrom 54 = .ok (.iconst 1, 1) := by decide +kernel
theorem dX0_tryFrom_55 : decode cX0_tryFrom 55 = .ok (.iadd, 1) := by decide +kernel
theorem dX0_tryFrom_56 : decode cX0_tryFrom 56 = .ok (.invokestatic 45, 3) := by decide +kernel
theorem dX0_tryFrom_59 : decode cX0_tryFrom 59 = .ok (.invokevirtual 38, 3) := by decide +kernel
theorem dX0_tryFrom_62 : decode cX0_tryFrom 62 = .ok (.aload_n 0, 1) := by decide +kernel
theorem dX0_tryFrom_63 : decode cX0_tryFrom 63 = .ok (.getfield 21, 3) := by decide +kernel
theorem dX0_tryFrom_66 : decode cX0_tryFrom 66 = .ok (.iload_n 3, 1) := by decide +kernel
theorem dX0_tryFrom_67 : decode cX0_tryFrom 67 = .ok (.dup2, 1) := by decide +kernel
theorem dX0_tryFrom_68 : decode cX0_tryFrom 68 = .ok (.iaload, 1) := by decide +kernel
theorem dX0_tryFrom_69 : decode cX0_tryFrom 69 = .ok (.aload_n 0, 1) := by decide +kernel
theorem dX0_tryFrom_70 : decode cX0_tryFrom 70 = .ok (.getfield 9, 3) := by decide +kernel
theorem dX0_tryFrom_73 : decode cX0_tryFrom 73 = .ok (.iload_n 1, 1) := by decide +kernel
theorem dX0_tryFrom_74 : decode cX0_tryFrom 74 = .ok (.iaload, 1) := by decide +kernel
theorem dX0_tryFrom_75 : decode cX0_tryFrom 75 = .ok (.isub, 1) := by decide +kernel
theorem dX0_tryFrom_76 : decode cX0_tryFrom 76 = .ok (.iastore, 1) := by decide +kernel
theorem dX0_tryFrom_77 : decode cX0_tryFrom 77 = .ok (.iinc 3 1, 3) := by decide +kernel
theorem dX0_tryFrom_80 : decode cX0_tryFrom 80 = .ok (.goto (-65), 3) := by decide +kernel
theorem dX0_tryFrom_83 : decode cX0_tryFrom 83 = .ok (.return_, 1) := by decide +kernel
theorem dX0_weigh_0 : decode cX0_weigh 0 = .ok (.iconst 0, 1) := by decide +kernel
theorem dX0_weigh_1 : decode cX0_weigh 1 = .ok (.istore_n 1, 1) := by decide +kernel
theorem dX0_weigh_2 : decode cX0_weigh 2 = .ok (.iconst 0, 1) := by decide +kernel
theorem dX0_weigh_3 : decode cX0_weigh 3 = .ok (.istore_n 2, 1) := by decide +kernel
theorem dX0_weigh_4 : decode cX0_weigh 4 = .ok (.iconst 0, 1) := by decide +kernel
theorem dX0_weigh_5 : decode cX0_weigh 5 = .ok (.istore_n 3, 1) := by decide +kernel
theorem dX0_weigh_6 : decode cX0_weigh 6 = .ok (.iload_n 3, 1) := by decide +kernel
theorem dX0_weigh_7 : decode cX0_weigh 7 = .ok (.bipush 7, 2) := by decide +kernel
theorem dX0_weigh_9 : decode cX0_weigh 9 = .ok (.if_icmp .ge 38, 3) := by decide +kernel
theorem dX0_weigh_12 : decode cX0_weigh 12 = .ok (.iload_n 1, 1) := by decide +kernel
theorem dX0_weigh_13 : decode cX0_weigh 13 = .ok (.iconst 0, 1) := by decide +kernel
theorem dX0_weigh_14 : decode cX0_weigh 14 = .ok (.aload_n 0, 1) := by decide +kernel
theorem dX0_weigh_15 : decode cX0_weigh 15 = .ok (.getfield 21, 3) := by decide +kernel
theorem dX0_weigh_18 : decode cX0_weigh 18 = .ok (.iload_n 3, 1) := by decide +kernel
theorem dX0_weigh_19 : decode cX0_weigh 19 = .ok (.iaload, 1) := by decide +kernel
theorem dX0_weigh_20 : decode cX0_weigh 20 = .ok (.aload_n 0, 1) := by decide +kernel
theorem dX0_weigh_21 : decode cX0_weigh 21 = .ok (.getfield 28, 3) := by decide +kernel
theorem dX0_weigh_24 : decode cX0_weigh 24 = .ok (.isub, 1) := by decide +kernel
theorem dX0_weigh_25 : decode cX0_weigh 25 = .ok (.invokestatic 45, 3) := by decide +kernel
theorem dX0_weigh_28 : decode cX0_weigh 28 = .ok (.iadd, 1) := by decide +kernel
theorem dX0_weigh_29 : decode cX0_weigh 29 = .ok (.istore_n 1, 1) := by decide +kernel
theorem dX0_weigh_30 : decode cX0_weigh 30 = .ok (.iload_n 2, 1) := by decide +kernel
theorem dX0_weigh_31 : decode cX0_weigh 31 = .ok (.aload_n 0, 1) := by decide +kernel
theorem dX0_weigh_32 : decode cX0_weigh 32 = .ok (.getfield 21, 3) := by decide +kernel
theorem dX0_weigh_35 : decode cX0_weigh 35 = .ok (.iload_n 3, 1) := by decide +kernel
theorem dX0_weigh_36 : decode cX0_weigh 36 = .ok (.iaload, 1) := by decide +kernel
theorem dX0_weigh_37 : decode cX0_weigh 37 = .ok (.invokestatic 45, 3) := by decide +kernel
theorem dX0_weigh_40 : decode cX0_weigh 40 = .ok (.istore_n 2, 1) := by decide +kernel
theorem dX0_weigh_41 : decode cX0_weigh 41 = .ok (.iinc 3 1, 3) := by decide +kernel
theorem dX0_weigh_44 : decode cX0_weigh 44 = .ok (.goto (-38), 3) := by decide +kernel
theorem dX0_weigh_47 : decode cX0_weigh 47 = .ok (.iload_n 1, 1) := by decide +kernel
theorem dX0_weigh_48 : decode cX0_weigh 48 = .ok (.aload_n 0, 1) := by decide +kernel
theorem dX0_weigh_49 : decode cX0_weigh 49 = .ok (.getfield 32, 3) := by decide +kernel
theorem dX0_weigh_52 : decode cX0_weigh 52 = .ok (.if_icmp .gt 19, 3) := by decide +kernel
theorem dX0_weigh_55 : decode cX0_weigh 55 = .ok (.iload_n 1, 1) := by decide +kernel
theorem dX0_weigh_56 : decode cX0_weigh 56 = .ok (.aload_n 0, 1) := by decide +kernel
theorem dX0_weigh_57 : decode cX0_weigh 57 = .ok (.getfield 32, 3) := by decide +kernel
theorem dX0_weigh_60 : decode cX0_weigh 60 = .ok (.if_icmp .ne 12, 3) := by decide +kernel
theorem dX0_weigh_63 : decode cX0_weigh 63 = .ok (.iload_n 2, 1) := by decide +kernel
theorem dX0_weigh_64 : decode cX0_weigh 64 = .ok (.aload_n 0, 1) := by decide +kernel
theorem dX0_weigh_65 : decode cX0_weigh 65 = .ok (.getfield 35, 3) := by decide +kernel
theorem dX0_weigh_68 : decode cX0_weigh 68 = .ok (.if_icmp .lt 4, 3) := by decide +kernel
theorem dX0_weigh_71 : decode cX0_weigh 71 = .ok (.return_, 1) := by decide +kernel
theorem dX0_weigh_72 : decode cX0_weigh 72 = .ok (.aload_n 0, 1) := by decide +kernel
theorem dX0_weigh_73 : decode cX0_weigh 73 = .ok (.iload_n 1, 1) := by decide +kernel
theorem dX0_weigh_74 : decode cX0_weigh 74 = .ok (.putfield 32, 3) := by decide +kernel
theorem dX0_weigh_77 : decode cX0_weigh 77 = .ok (.aload_n 0, 1) := by decide +kernel
theorem dX0_weigh_78 : decode cX0_weigh 78 = .ok (.iload_n 2, 1) := by decide +kernel
theorem dX0_weigh_79 : decode cX0_weigh 79 = .ok (.putfield 35, 3) := by decide +kernel
theorem dX0_weigh_82 : decode cX0_weigh 82 = .ok (.aload_n 0, 1) := by decide +kernel
theorem dX0_weigh_83 : decode cX0_weigh 83 = .ok (.getfield 15, 3) := by decide +kernel
theorem dX0_weigh_86 : decode cX0_weigh 86 = .ok (.iconst 0, 1) := by decide +kernel
theorem dX0_weigh_87 : decode cX0_weigh 87 = .ok (.aload_n 0, 1) := by decide +kernel
theorem dX0_weigh_88 : decode cX0_weigh 88 = .ok (.getfield 18, 3) := by decide +kernel
theorem dX0_weigh_91 : decode cX0_weigh 91 = .ok (.iconst 0, 1) := by decide +kernel
theorem dX0_weigh_92 : decode cX0_weigh 92 = .ok (.aload_n 0, 1) := by decide +kernel
theorem dX0_weigh_93 : decode cX0_weigh 93 = .ok (.getfield 24, 3) := by decide +kernel
theorem dX0_weigh_96 : decode cX0_weigh 96 = .ok (.invokestatic 51, 3) := by decide +kernel
theorem dX0_weigh_99 : decode cX0_weigh 99 = .ok (.return_, 1) := by decide +kernel
theorem dX1_init_0 : decode cX1_init 0 = .ok (.aload_n 0, 1) := by decide +kernel
theorem dX1_init_1 : decode cX1_init 1 = .ok (.invokespecial 3, 3) := by decide +kernel
theorem dX1_init_4 : decode cX1_init 4 = .ok (.aload_n 0, 1) := by decide +kernel
theorem dX1_init_5 : decode cX1_init 5 = .ok (.iconst (-1), 1) := by decide +kernel
theorem dX1_init_6 : decode cX1_init 6 = .ok (.putfield 9, 3) := by decide +kernel
theorem dX1_init_9 : decode cX1_init 9 = .ok (.aload_n 0, 1) := by decide +kernel
theorem dX1_init_10 : decode cX1_init 10 = .ok (.iload_n 1, 1) := by decide +kernel
theorem dX1_init_11 : decode cX1_init 11 = .ok (.putfield 15, 3) := by decide +kernel
theorem dX1_init_14 : decode cX1_init 14 = .ok (.aload_n 0, 1) := by decide +kernel
theorem dX1_init_15 : decode cX1_init 15 = .ok (.iload_n 2, 1) := by decide +kernel
theorem dX1_init_16 : decode cX1_init 16 = .ok (.putfield 18, 3) := by decide +kernel
theorem dX1_init_19 : decode cX1_init 19 = .ok (.aload_n 0, 1) := by decide +kernel
theorem dX1_init_20 : decode cX1_init 20 = .ok (.iload_n 3, 1) := by decide +kernel
theorem dX1_init_21 : decode cX1_init 21 = .ok (.putfield 21, 3) := by decide +kernel
theorem dX1_init_24 : decode cX1_init 24 = .ok (.aload_n 0, 1) := by decide +kernel
theorem dX1_init_25 : decode cX1_init 25 = .ok (.iload 4, 2) := by decide +kernel
theorem dX1_init_27 : decode cX1_init 27 = .ok (.putfield 24, 3) := by decide +kernel
theorem dX1_init_30 : decode cX1_init 30 = .ok (.aload_n 0, 1) := by decide +kernel
theorem dX1_init_31 : decode cX1_init 31 = .ok (.iload 5, 2) := by decide +kernel
theorem dX1_init_33 : decode cX1_init 33 = .ok (.putfield 27, 3) := by decide +kernel
theorem dX1_init_36 : decode cX1_init 36 = .ok (.return_, 1) := by decide +kernel
theorem dX1_roomInCistern_0 : decode cX1_roomInCistern 0 = .ok (.aload_n 0, 1) := by decide +kernel
theorem dX1_roomInCistern_1 : decode cX1_roomInCistern 1 = .ok (.getfield 18, 3) := by decide +kernel
theorem dX1_roomInCistern_4 : decode cX1_roomInCistern 4 = .ok (.aload_n 0, 1) := by decide +kernel
theorem dX1_roomInCistern_5 : decode cX1_roomInCistern 5 = .ok (.getfield 31, 3) := by decide +kernel
theorem dX1_roomInCistern_8 : decode cX1_roomInCistern 8 = .ok (.isub, 1) := by decide +kernel
theorem dX1_roomInCistern_9 : decode cX1_roomInCistern 9 = .ok (.ireturn, 1) := by decide +kernel
theorem dX1_takeFrom_0 : decode cX1_takeFrom 0 = .ok (.bipush 30, 2) := by decide +kernel
theorem dX1_takeFrom_2 : decode cX1_takeFrom 2 = .ok (.iload_n 1, 1) := by decide +kernel
theorem dX1_takeFrom_3 : decode cX1_takeFrom 3 = .ok (.invokestatic 34, 3) := by decide +kernel
theorem dX1_takeFrom_6 : decode cX1_takeFrom 6 = .ok (.istore_n 3, 1) := by decide +kernel
theorem dX1_takeFrom_7 : decode cX1_takeFrom 7 = .ok (.iload_n 3, 1) := by decide +kernel
theorem dX1_takeFrom_8 : decode cX1_takeFrom 8 = .ok (.aload_n 0, 1) := by decide +kernel
theorem dX1_takeFrom_9 : decode cX1_takeFrom 9 = .ok (.invokevirtual 40, 3) := by decide +kernel
theorem dX1_takeFrom_12 : decode cX1_takeFrom 12 = .ok (.invokestatic 34, 3) := by decide +kernel
theorem dX1_takeFrom_15 : decode cX1_takeFrom 15 = .ok (.istore 4, 2) := by decide +kernel
theorem dX1_takeFrom_17 : decode cX1_takeFrom 17 = .ok (.aload_n 0, 1) := by decide +kernel
theorem dX1_takeFrom_18 : decode cX1_takeFrom 18 = .ok (.dup, 1) := by decide +kernel
theorem dX1_takeFrom_19 : decode cX1_takeFrom 19 = .ok (.getfield 31, 3) := by decide +kernel
theorem dX1_takeFrom_22 : decode cX1_takeFrom 22 = .ok (.iload 4, 2) := by decide +kernel
theorem dX1_takeFrom_24 : decode cX1_takeFrom 24 = .ok (.iadd, 1) := by decide +kernel
theorem dX1_takeFrom_25 : decode cX1_takeFrom 25 = .ok (.putfield 31, 3) := by decide +kernel
theorem dX1_takeFrom_28 : decode cX1_takeFrom 28 = .ok (.aload_n 0, 1) := by decide +kernel
theorem dX1_takeFrom_29 : decode cX1_takeFrom 29 = .ok (.getfield 27, 3) := by decide +kernel
theorem dX1_takeFrom_32 : decode cX1_takeFrom 32 = .ok (.ifCond .eq 6, 3) := by decide +kernel
theorem dX1_takeFrom_35 : decode cX1_takeFrom 35 = .ok (.iload 4, 2) := by decide +kernel
theorem dX1_takeFrom_37 : decode cX1_takeFrom 37 = .ok (.ireturn, 1) := by decide +kernel
theorem dX1_takeFrom_38 : decode cX1_takeFrom 38 = .ok (.aload_n 2, 1) := by decide +kernel
theorem dX1_takeFrom_39 : decode cX1_takeFrom 39 = .ok (.dup, 1) := by decide +kernel
theorem dX1_takeFrom_40 : decode cX1_takeFrom 40 = .ok (.getfield 44, 3) := by decide +kernel
theorem dX1_takeFrom_43 : decode cX1_takeFrom 43 = .ok (.iload_n 3, 1) := by decide +kernel
theorem dX1_takeFrom_44 : decode cX1_takeFrom 44 = .ok (.iload 4, 2) := by decide +kernel
theorem dX1_takeFrom_46 : decode cX1_takeFrom 46 = .ok (.isub, 1) := by decide +kernel
theorem dX1_takeFrom_47 : decode cX1_takeFrom 47 = .ok (.iadd, 1) := by decide +kernel
theorem dX1_takeFrom_48 : decode cX1_takeFrom 48 = .ok (.putfield 44, 3) := by decide +kernel
theorem dX1_takeFrom_51 : decode cX1_takeFrom 51 = .ok (.iload_n 3, 1) := by decide +kernel
theorem dX1_takeFrom_52 : decode cX1_takeFrom 52 = .ok (.ireturn, 1) := by decide +kernel
theorem dX1_use_0 : decode cX1_use 0 = .ok (.aload_n 0, 1) := by decide +kernel
theorem dX1_use_1 : decode cX1_use 1 = .ok (.getfield 31, 3) := by decide +kernel
theorem dX1_use_4 : decode cX1_use 4 = .ok (.iload_n 1, 1) := by decide +kernel
theorem dX1_use_5 : decode cX1_use 5 = .ok (.if_icmp .ge 21, 3) := by decide +kernel
theorem dX1_use_8 : decode cX1_use 8 = .ok (.aload_n 0, 1) := by decide +kernel
theorem dX1_use_9 : decode cX1_use 9 = .ok (.iconst 0, 1) := by decide +kernel
theorem dX1_use_10 : decode cX1_use 10 = .ok (.putfield 31, 3) := by decide +kernel
theorem dX1_use_13 : decode cX1_use 13 = .ok (.aload_n 0, 1) := by decide +kernel
theorem dX1_use_14 : decode cX1_use 14 = .ok (.dup, 1) := by decide +kernel
theorem dX1_use_15 : decode cX1_use 15 = .ok (.getfield 49, 3) := by decide +kernel
theorem dX1_use_18 : decode cX1_use 18 = .ok (.iconst 1, 1) := by decide +kernel
theorem dX1_use_19 : decode cX1_use 19 = .ok (.iadd, 1) := by decide +kernel
theorem dX1_use_20 : decode cX1_use 20 = .ok (.putfield 49, 3) := by decide +kernel
theorem dX1_use_23 : decode cX1_use 23 = .ok (.goto 13, 3) := by decide +kernel
theorem dX1_use_26 : decode cX1_use 26 = .ok (.aload_n 0, 1) := by decide +kernel
theorem dX1_use_27 : decode cX1_use 27 = .ok (.dup, 1) := by decide +kernel
theorem dX1_use_28 : decode cX1_use 28 = .ok (.getfield 31, 3) := by decide +kernel
theorem dX1_use_31 : decode cX1_use 31 = .ok (.iload_n 1, 1) := by decide +kernel
theorem dX1_use_32 : decode cX1_use 32 = .ok (.isub, 1) := by decide +kernel
theorem dX1_use_33 : decode cX1_use 33 = .ok (.putfield 31, 3) := by decide +kernel
theorem dX1_use_36 : decode cX1_use 36 = .ok (.return_, 1) := by decide +kernel
theorem dX2_init_0 : decode cX2_init 0 = .ok (.aload_n 0, 1) := by decide +kernel
theorem dX2_init_1 : decode cX2_init 1 = .ok (.invokespecial 3, 3) := by decide +kernel
theorem dX2_init_4 : decode cX2_init 4 = .ok (.aload_n 0, 1) := by decide +kernel
theorem dX2_init_5 : decode cX2_init 5 = .ok (.sipush 1024, 3) := by decide +kernel
theorem dX2_init_8 : decode cX2_init 8 = .ok (.newarray .int, 2) := by decide +kernel
theorem dX2_init_10 : decode cX2_init 10 = .ok (.putfield 9, 3) := by decide +kernel
theorem dX2_init_13 : decode cX2_init 13 = .ok (.aload_n 0, 1) := by decide +kernel
theorem dX2_init_14 : decode cX2_init 14 = .ok (.sipush 1024, 3) := by decide +kernel
theorem dX2_init_17 : decode cX2_init 17 = .ok (.newarray .int, 2) := by decide +kernel
theorem dX2_init_19 : decode cX2_init 19 = .ok (.putfield 15, 3) := by decide +kernel
theorem dX2_init_22 : decode cX2_init 22 = .ok (.return_, 1) := by decide +kernel
theorem dX2_tell_0 : decode cX2_tell 0 = .ok (.aload_n 0, 1) := by decide +kernel
theorem dX2_tell_1 : decode cX2_tell 1 = .ok (.getfield 9, 3) := by decide +kernel
theorem dX2_tell_4 : decode cX2_tell 4 = .ok (.iconst 1, 1) := by decide +kernel
theorem dX2_tell_5 : decode cX2_tell 5 = .ok (.iload_n 1, 1) := by decide +kernel
theorem dX2_tell_6 : decode cX2_tell 6 = .ok (.ishl, 1) := by decide +kernel
theorem dX2_tell_7 : decode cX2_tell 7 = .ok (.iload_n 2, 1) := by decide +kernel
theorem dX2_tell_8 : decode cX2_tell 8 = .ok (.iastore, 1) := by decide +kernel
theorem dX2_tell_9 : decode cX2_tell 9 = .ok (.aload_n 0, 1) := by decide +kernel
theorem dX2_tell_10 : decode cX2_tell 10 = .ok (.getfield 15, 3) := by decide +kernel
theorem dX2_tell_13 : decode cX2_tell 13 = .ok (.iconst 1, 1) := by decide +kernel
theorem dX2_tell_14 : decode cX2_tell 14 = .ok (.iload_n 1, 1) := by decide +kernel
theorem dX2_tell_15 : decode cX2_tell 15 = .ok (.ishl, 1) := by decide +kernel
theorem dX2_tell_16 : decode cX2_tell 16 = .ok (.iload_n 3, 1) := by decide +kernel
theorem dX2_tell_17 : decode cX2_tell 17 = .ok (.iastore, 1) := by decide +kernel
theorem dX2_tell_18 : decode cX2_tell 18 = .ok (.return_, 1) := by decide +kernel
theorem dX2_worthOf_0 : decode cX2_worthOf 0 = .ok (.aload_n 0, 1) := by decide +kernel
theorem dX2_worthOf_1 : decode cX2_worthOf 1 = .ok (.getfield 15, 3) := by decide +kernel
theorem dX2_worthOf_4 : decode cX2_worthOf 4 = .ok (.iload_n 1, 1) := by decide +kernel
theorem dX2_worthOf_5 : decode cX2_worthOf 5 = .ok (.iaload, 1) := by decide +kernel
theorem dX2_worthOf_6 : decode cX2_worthOf 6 = .ok (.ireturn, 1) := by decide +kernel
theorem dX2_bestSet_0 : decode cX2_bestSet 0 = .ok (.iconst 0, 1) := by decide +kernel
theorem dX2_bestSet_1 : decode cX2_bestSet 1 = .ok (.istore_n 3, 1) := by decide +kernel
theorem dX2_bestSet_2 : decode cX2_bestSet 2 = .ok (.iconst 1, 1) := by decide +kernel
theorem dX2_bestSet_3 : decode cX2_bestSet 3 = .ok (.istore 4, 2) := by decide +kernel
theorem dX2_bestSet_5 : decode cX2_bestSet 5 = .ok (.iload 4, 2) := by decide +kernel
theorem dX2_bestSet_7 : decode cX2_bestSet 7 = .ok (.iconst 1, 1) := by decide +kernel
theorem dX2_bestSet_8 : decode cX2_bestSet 8 = .ok (.iload_n 1, 1) := by decide +kernel
theorem dX2_bestSet_9 : decode cX2_bestSet 9 = .ok (.ishl, 1) := by decide +kernel
theorem dX2_bestSet_10 : decode cX2_bestSet 10 = .ok (.if_icmp .ge 98, 3) := by decide +kernel
theorem dX2_bestSet_13 : decode cX2_bestSet 13 = .ok (.iload 4, 2) := by decide +kernel
theorem dX2_bestSet_15 : decode cX2_bestSet 15 = .ok (.iload 4, 2) := by decide +kernel
theorem dX2_bestSet_17 : decode cX2_bestSet 17 = .ok (.ineg, 1) := by decide +kernel
theorem dX2_bestSet_18 : decode cX2_bestSet 18 = .ok (.iand, 1) := by decide +kernel
theorem dX2_bestSet_19 : decode cX2_bestSet 19 = .ok (.istore 5, 2) := by decide +kernel
theorem dX2_bestSet_21 : decode cX2_bestSet 21 = .ok (.iload 4, 2) := by decide +kernel
theorem dX2_bestSet_23 : decode cX2_bestSet 23 = .ok (.iload 5, 2) := by decide +kernel
theorem dX2_bestSet_25 : decode cX2_bestSet 25 = .ok (.if_icmp .eq 53, 3) := by decide +kernel
theorem dX2_bestSet_28 : decode cX2_bestSet 28 = .ok (.aload_n 0, 1) := by decide +kernel
theorem dX2_bestSet_29 : decode cX2_bestSet 29 = .ok (.getfield 9, 3) := by decide +kernel
theorem dX2_bestSet_32 : decode cX2_bestSet 32 = .ok (.iload 4, 2) := by decide +kernel
theorem dX2_bestSet_34 : decode cX2_bestSet 34 = .ok (.aload_n 0, 1) := by decide +kernel
theorem dX2_bestSet_35 : decode cX2_bestSet 35 = .ok (.getfield 9, 3) := by decide +kernel
theorem dX2_bestSet_38 : decode cX2_bestSet 38 = .ok (.iload 4, 2) := by decide +kernel
theorem dX2_bestSet_40 : decode cX2_bestSet 40 = .ok (.iload 5, 2) := by decide +kernel
theorem dX2_bestSet_42 : decode cX2_bestSet 42 = .ok (.isub, 1) := by decide +kernel
theorem dX2_bestSet_43 : decode cX2_bestSet 43 = .ok (.iaload, 1) := by decide +kernel
theorem dX2_bestSet_44 : decode cX2_bestSet 44 = .ok (.aload_n 0, 1) := by decide +kernel
theorem dX2_bestSet_45 : decode cX2_bestSet 45 = .ok (.getfield 9, 3) := by decide +kernel
theorem dX2_bestSet_48 : decode cX2_bestSet 48 = .ok (.iload 5, 2) := by decide +kernel
theorem dX2_bestSet_50 : decode cX2_bestSet 50 = .ok (.iaload, 1) := by decide +kernel
theorem dX2_bestSet_51 : decode cX2_bestSet 51 = .ok (.iadd, 1) := by decide +kernel
theorem dX2_bestSet_52 : decode cX2_bestSet 52 = .ok (.iastore, 1) := by decide +kernel
theorem dX2_bestSet_53 : decode cX2_bestSet 53 = .ok (.aload_n 0, 1) := by decide +kernel
theorem dX2_bestSet_54 : decode cX2_bestSet 54 = .ok (.getfield 15, 3) := by decide +kernel
theorem dX2_bestSet_57 : decode cX2_bestSet 57 = .ok (.iload 4, 2) := by decide +kernel
theorem dX2_bestSet_59 : decode cX2_bestSet 59 = .ok (.aload_n 0, 1) := by decide +kernel
theorem dX2_bestSet_60 : decode cX2_bestSet 60 = .ok (.getfield 15, 3) := by decide +kernel
theorem dX2_bestSet_63 : decode cX2_bestSet 63 = .ok (.iload 4, 2) := by decide +kernel
theorem dX2_bestSet_65 : decode cX2_bestSet 65 = .ok (.iload 5, 2) := by decide +kernel
theorem dX2_bestSet_67 : decode cX2_bestSet 67 = .ok (.isub, 1) := by decide +kernel
theorem dX2_bestSet_68 : decode cX2_bestSet 68 = .ok (.iaload, 1) := by decide +kernel
theorem dX2_bestSet_69 : decode cX2_bestSet 69 = .ok (.aload_n 0, 1) := by decide +kernel
theorem dX2_bestSet_70 : decode cX2_bestSet 70 = .ok (.getfield 15, 3) := by decide +kernel
theorem dX2_bestSet_73 : decode cX2_bestSet 73 = .ok (.iload 5, 2) := by decide +kernel
theorem dX2_bestSet_75 : decode cX2_bestSet 75 = .ok (.iaload, 1) := by decide +kernel
theorem dX2_bestSet_76 : decode cX2_bestSet 76 = .ok (.iadd, 1) := by decide +kernel
theorem dX2_bestSet_77 : decode cX2_bestSet 77 = .ok (.iastore, 1) := by decide +kernel
theorem dX2_bestSet_78 : decode cX2_bestSet 78 = .ok (.aload_n 0, 1) := by decide +kernel
theorem dX2_bestSet_79 : decode cX2_bestSet 79 = .ok (.getfield 9, 3) := by decide +kernel
theorem dX2_bestSet_82 : decode cX2_bestSet 82 = .ok (.iload 4, 2) := by decide +kernel
theorem dX2_bestSet_84 : decode cX2_bestSet 84 = .ok (.iaload, 1) := by decide +kernel
theorem dX2_bestSet_85 : decode cX2_bestSet 85 = .ok (.iload_n 2, 1) := by decide +kernel
theorem dX2_bestSet_86 : decode cX2_bestSet 86 = .ok (.if_icmp .gt 16, 3) := by decide +kernel
theorem dX2_bestSet_89 : decode cX2_bestSet 89 = .ok (.aload_n 0, 1) := by decide +kernel
theorem dX2_bestSet_90 : decode cX2_bestSet 90 = .ok (.iload 4, 2) := by decide +kernel
theorem dX2_bestSet_92 : decode cX2_bestSet 92 = .ok (.iload_n 3, 1) := by decide +kernel
theorem dX2_bestSet_93 : decode cX2_bestSet 93 = .ok (.invokevirtual 18, 3) := by decide +kernel
theorem dX2_bestSet_96 : decode cX2_bestSet 96 = .ok (.ifCond .eq 6, 3) := by decide +kernel
theorem dX2_bestSet_99 : decode cX2_bestSet 99 = .ok (.iload 4, 2) := by decide +kernel
theorem dX2_bestSet_101 : decode cX2_bestSet 101 = .ok (.istore_n 3, 1) := by decide +kernel
theorem dX2_bestSet_102 : decode cX2_bestSet 102 = .ok (.iinc 4 1, 3) := by decide +kernel
theorem dX2_bestSet_105 : decode cX2_bestSet 105 = .ok (.goto (-100), 3) := by decide +kernel
theorem dX2_bestSet_108 : decode cX2_bestSet 108 = .ok (.iload_n 3, 1) := by decide +kernel
theorem dX2_bestSet_109 : decode cX2_bestSet 109 = .ok (.ireturn, 1) := by decide +kernel
theorem dX2_isBetter_0 : decode cX2_isBetter 0 = .ok (.aload_n 0, 1) := by decide +kernel
theorem dX2_isBetter_1 : decode cX2_isBetter 1 = .ok (.getfield 15, 3) := by decide +kernel
theorem dX2_isBetter_4 : decode cX2_isBetter 4 = .ok (.iload_n 1, 1) := by decide +kernel
theorem dX2_isBetter_5 : decode cX2_isBetter 5 = .ok (.iaload, 1) := by decide +kernel
theorem dX2_isBetter_6 : decode cX2_isBetter 6 = .ok (.aload_n 0, 1) := by decide +kernel
theorem dX2_isBetter_7 : decode cX2_isBetter 7 = .ok (.getfield 15, 3) := by decide +kernel
theorem dX2_isBetter_10 : decode cX2_isBetter 10 = .ok (.iload_n 2, 1) := by decide +kernel
theorem dX2_isBetter_11 : decode cX2_isBetter 11 = .ok (.iaload, 1) := by decide +kernel
theorem dX2_isBetter_12 : decode cX2_isBetter 12 = .ok (.if_icmp .eq 24, 3) := by decide +kernel
theorem dX2_isBetter_15 : decode cX2_isBetter 15 = .ok (.aload_n 0, 1) := by decide +kernel
theorem dX2_isBetter_16 : decode cX2_isBetter 16 = .ok (.getfield 15, 3) := by decide +kernel
theorem dX2_isBetter_19 : decode cX2_isBetter 19 = .ok (.iload_n 1, 1) := by decide +kernel
theorem dX2_isBetter_20 : decode cX2_isBetter 20 = .ok (.iaload, 1) := by decide +kernel
theorem dX2_isBetter_21 : decode cX2_isBetter 21 = .ok (.aload_n 0, 1) := by decide +kernel
theorem dX2_isBetter_22 : decode cX2_isBetter 22 = .ok (.getfield 15, 3) := by decide +kernel
theorem dX2_isBetter_25 : decode cX2_isBetter 25 = .ok (.iload_n 2, 1) := by decide +kernel
theorem dX2_isBetter_26 : decode cX2_isBetter 26 = .ok (.iaload, 1) := by decide +kernel
theorem dX2_isBetter_27 : decode cX2_isBetter 27 = .ok (.if_icmp .le 7, 3) := by decide +kernel
theorem dX2_isBetter_30 : decode cX2_isBetter 30 = .ok (.iconst 1, 1) := by decide +kernel
theorem dX2_isBetter_31 : decode cX2_isBetter 31 = .ok (.goto 4, 3) := by decide +kernel
theorem dX2_isBetter_34 : decode cX2_isBetter 34 = .ok (.iconst 0, 1) := by decide +kernel
theorem dX2_isBetter_35 : decode cX2_isBetter 35 = .ok (.ireturn, 1) := by decide +kernel
theorem dX2_isBetter_36 : decode cX2_isBetter 36 = .ok (.iload_n 1, 1) := by decide +kernel
theorem dX2_isBetter_37 : decode cX2_isBetter 37 = .ok (.invokestatic 22, 3) := by decide +kernel
theorem dX2_isBetter_40 : decode cX2_isBetter 40 = .ok (.iload_n 2, 1) := by decide +kernel
theorem dX2_isBetter_41 : decode cX2_isBetter 41 = .ok (.invokestatic 22, 3) := by decide +kernel
theorem dX2_isBetter_44 : decode cX2_isBetter 44 = .ok (.if_icmp .ge 7, 3) := by decide +kernel
theorem dX2_isBetter_47 : decode cX2_isBetter 47 = .ok (.iconst 1, 1) := by decide +kernel
theorem dX2_isBetter_48 : decode cX2_isBetter 48 = .ok (.goto 4, 3) := by decide +kernel
theorem dX2_isBetter_51 : decode cX2_isBetter 51 = .ok (.iconst 0, 1) := by decide +kernel
theorem dX2_isBetter_52 : decode cX2_isBetter 52 = .ok (.ireturn, 1) := by decide +kernel
theorem dX3_init_0 : decode cX3_init 0 = .ok (.aload_n 0, 1) := by decide +kernel
theorem dX3_init_1 : decode cX3_init 1 = .ok (.invokespecial 1, 3) := by decide +kernel
theorem dX3_init_4 : decode cX3_init 4 = .ok (.aload_n 0, 1) := by decide +kernel
theorem dX3_init_5 : decode cX3_init 5 = .ok (.iload_n 1, 1) := by decide +kernel
theorem dX3_init_6 : decode cX3_init 6 = .ok (.putfield 7, 3) := by decide +kernel
theorem dX3_init_9 : decode cX3_init 9 = .ok (.aload_n 0, 1) := by decide +kernel
theorem dX3_init_10 : decode cX3_init 10 = .ok (.iload_n 2, 1) := by decide +kernel
theorem dX3_init_11 : decode cX3_init 11 = .ok (.putfield 13, 3) := by decide +kernel
theorem dX3_init_14 : decode cX3_init 14 = .ok (.aload_n 0, 1) := by decide +kernel
theorem dX3_init_15 : decode cX3_init 15 = .ok (.iload_n 3, 1) := by decide +kernel
theorem dX3_init_16 : decode cX3_init 16 = .ok (.putfield 16, 3) := by decide +kernel
theorem dX3_init_19 : decode cX3_init 19 = .ok (.aload_n 0, 1) := by decide +kernel
theorem dX3_init_20 : decode cX3_init 20 = .ok (.iload 4, 2) := by decide +kernel
theorem dX3_init_22 : decode cX3_init 22 = .ok (.putfield 19, 3) := by decide +kernel
theorem dX3_init_25 : decode cX3_init 25 = .ok (.return_, 1) := by decide +kernel
theorem dX3_rateFor_0 : decode cX3_rateFor 0 = .ok (.aload_n 0, 1) := by decide +kernel
theorem dX3_rateFor_1 : decode cX3_rateFor 1 = .ok (.getfield 7, 3) := by decide +kernel
theorem dX3_rateFor_4 : decode cX3_rateFor 4 = .ok (.aload_n 0, 1) := by decide +kernel
theorem dX3_rateFor_5 : decode cX3_rateFor 5 = .ok (.getfield 13, 3) := by decide +kernel
theorem dX3_rateFor_8 : decode cX3_rateFor 8 = .ok (.aload_n 1, 1) := by decide +kernel
theorem dX3_rateFor_9 : decode cX3_rateFor 9 = .ok (.getfield 22, 3) := by decide +kernel
theorem dX3_rateFor_12 : decode cX3_rateFor 12 = .ok (.imul, 1) := by decide +kernel
theorem dX3_rateFor_13 : decode cX3_rateFor 13 = .ok (.iadd, 1) := by decide +kernel
theorem dX3_rateFor_14 : decode cX3_rateFor 14 = .ok (.aload_n 0, 1) := by decide +kernel
theorem dX3_rateFor_15 : decode cX3_rateFor 15 = .ok (.getfield 16, 3) := by decide +kernel
theorem dX3_rateFor_18 : decode cX3_rateFor 18 = .ok (.aload_n 1, 1) := by decide +kernel
theorem dX3_rateFor_19 : decode cX3_rateFor 19 = .ok (.getfield 27, 3) := by decide +kernel
theorem dX3_rateFor_22 : decode cX3_rateFor 22 = .ok (.bipush 10, 2) := by decide +kernel
theorem dX3_rateFor_24 : decode cX3_rateFor 24 = .ok (.idiv, 1) := by decide +kernel
theorem dX3_rateFor_25 : decode cX3_rateFor 25 = .ok (.imul, 1) := by decide +kernel
theorem dX3_rateFor_26 : decode cX3_rateFor 26 = .ok (.iadd, 1) := by decide +kernel
theorem dX3_rateFor_27 : decode cX3_rateFor 27 = .ok (.ireturn, 1) := by decide +kernel
theorem dX4_init_0 : decode cX4_init 0 = .ok (.aload_n 0, 1) := by decide +kernel
theorem dX4_init_1 : decode cX4_init 1 = .ok (.invokespecial 3, 3) := by decide +kernel
theorem dX4_init_4 : decode cX4_init 4 = .ok (.aload_n 0, 1) := by decide +kernel
theorem dX4_init_5 : decode cX4_init 5 = .ok (.bipush 24, 2) := by decide +kernel
theorem dX4_init_7 : decode cX4_init 7 = .ok (.newarray .int, 2) := by decide +kernel
theorem dX4_init_9 : decode cX4_init 9 = .ok (.putfield 9, 3) := by decide +kernel
theorem dX4_init_12 : decode cX4_init 12 = .ok (.aload_n 0, 1) := by decide +kernel
theorem dX4_init_13 : decode cX4_init 13 = .ok (.iconst (-1), 1) := by decide +kernel
theorem dX4_init_14 : decode cX4_init 14 = .ok (.putfield 15, 3) := by decide +kernel
theorem dX4_init_17 : decode cX4_init 17 = .ok (.return_, 1) := by decide +kernel
theorem dX4_isMissing_0 : decode cX4_isMissing 0 = .ok (.aload_n 0, 1) := by decide +kernel
theorem dX4_isMissing_1 : decode cX4_isMissing 1 = .ok (.getfield 15, 3) := by decide +kernel
theorem dX4_isMissing_4 : decode cX4_isMissing 4 = .ok (.ifCond .ge 7, 3) := by decide +kernel
theorem dX4_isMissing_7 : decode cX4_isMissing 7 = .ok (.iconst 1, 1) := by decide +kernel
theorem dX4_isMissing_8 : decode cX4_isMissing 8 = .ok (.goto 4, 3) := by decide +kernel
theorem dX4_isMissing_11 : decode cX4_isMissing 11 = .ok (.iconst 0, 1) := by decide +kernel
theorem dX4_isMissing_12 : decode cX4_isMissing 12 = .ok (.ireturn, 1) := by decide +kernel
theorem dX4_forget_0 : decode cX4_forget 0 = .ok (.aload_n 0, 1) := by decide +kernel
theorem dX4_forget_1 : decode cX4_forget 1 = .ok (.iconst (-1), 1) := by decide +kernel
theorem dX4_forget_2 : decode cX4_forget 2 = .ok (.putfield 15, 3) := by decide +kernel
theorem dX4_forget_5 : decode cX4_forget 5 = .ok (.return_, 1) := by decide +kernel
theorem dX4_makeAnew_0 : decode cX4_makeAnew 0 = .ok (.aload_n 0, 1) := by decide +kernel
theorem dX4_makeAnew_1 : decode cX4_makeAnew 1 = .ok (.getfield 9, 3) := by decide +kernel
theorem dX4_makeAnew_4 : decode cX4_makeAnew 4 = .ok (.iconst 0, 1) := by decide +kernel
theorem dX4_makeAnew_5 : decode cX4_makeAnew 5 = .ok (.invokestatic 19, 3) := by decide +kernel
theorem dX4_makeAnew_8 : decode cX4_makeAnew 8 = .ok (.aload_n 0, 1) := by decide +kernel
theorem dX4_makeAnew_9 : decode cX4_makeAnew 9 = .ok (.iload_n 1, 1) := by decide +kernel
theorem dX4_makeAnew_10 : decode cX4_makeAnew 10 = .ok (.putfield 15, 3) := by decide +kernel
theorem dX4_makeAnew_13 : decode cX4_makeAnew 13 = .ok (.return_, 1) := by decide +kernel
theorem dX4_hasPlaces_0 : decode cX4_hasPlaces 0 = .ok (.iload_n 1, 1) := by decide +kernel
theorem dX4_hasPlaces_1 : decode cX4_hasPlaces 1 = .ok (.ifCond .lt 21, 3) := by decide +kernel
theorem dX4_hasPlaces_4 : decode cX4_hasPlaces 4 = .ok (.iload_n 2, 1) := by decide +kernel
theorem dX4_hasPlaces_5 : decode cX4_hasPlaces 5 = .ok (.ifCond .lt 17, 3) := by decide +kernel
theorem dX4_hasPlaces_8 : decode cX4_hasPlaces 8 = .ok (.iload_n 2, 1) := by decide +kernel
theorem dX4_hasPlaces_9 : decode cX4_hasPlaces 9 = .ok (.aload_n 0, 1) := by decide +kernel
theorem dX4_hasPlaces_10 : decode cX4_hasPlaces 10 = .ok (.getfield 15, 3) := by decide +kernel
theorem dX4_hasPlaces_13 : decode cX4_hasPlaces 13 = .ok (.iload_n 1, 1) := by decide +kernel
theorem dX4_hasPlaces_14 : decode cX4_hasPlaces 14 = .ok (.isub, 1) := by decide +kernel
theorem dX4_hasPlaces_15 : decode cX4_hasPlaces 15 = .ok (.if_icmp .gt 7, 3) := by decide +kernel
theorem dX4_hasPlaces_18 : decode cX4_hasPlaces 18 = .ok (.iconst 1, 1) := by decide +kernel
theorem dX4_hasPlaces_19 : decode cX4_hasPlaces 19 = .ok (.goto 4, 3) := by decide +kernel
theorem dX4_hasPlaces_22 : decode cX4_hasPlaces 22 = .ok (.iconst 0, 1) := by decide +kernel
theorem dX4_hasPlaces_23 : decode cX4_hasPlaces 23 = .ok (.ireturn, 1) := by decide +kernel
theorem dX5_init_0 : decode cX5_init 0 = .ok (.aload_n 0, 1) := by decide +kernel
theorem dX5_init_1 : decode cX5_init 1 = .ok (.invokespecial 3, 3) := by decide +kernel
theorem dX5_init_4 : decode cX5_init 4 = .ok (.aload_n 0, 1) := by decide +kernel
theorem dX5_init_5 : decode cX5_init 5 = .ok (.iconst 0, 1) := by decide +kernel
theorem dX5_init_6 : decode cX5_init 6 = .ok (.putfield 9, 3) := by decide +kernel
theorem dX5_init_9 : decode cX5_init 9 = .ok (.aload_n 0, 1) := by decide +kernel
theorem dX5_init_10 : decode cX5_init 10 = .ok (.iconst 0, 1) := by decide +kernel
theorem dX5_init_11 : decode cX5_init 11 = .ok (.putfield 15, 3) := by decide +kernel
theorem dX5_init_14 : decode cX5_init 14 = .ok (.aload_n 0, 1) := by decide +kernel
theorem dX5_init_15 : decode cX5_init 15 = .ok (.sipush 5000, 3) := by decide +kernel
theorem dX5_init_18 : decode cX5_init 18 = .ok (.putfield 18, 3) := by decide +kernel
theorem dX5_init_21 : decode cX5_init 21 = .ok (.aload_n 0, 1) := by decide +kernel
theorem dX5_init_22 : decode cX5_init 22 = .ok (.iload_n 1, 1) := by decide +kernel
theorem dX5_init_23 : decode cX5_init 23 = .ok (.putfield 21, 3) := by decide +kernel
theorem dX5_init_26 : decode cX5_init 26 = .ok (.aload_n 0, 1) := by decide +kernel
theorem dX5_init_27 : decode cX5_init 27 = .ok (.iload_n 2, 1) := by decide +kernel
theorem dX5_init_28 : decode cX5_init 28 = .ok (.putfield 24, 3) := by decide +kernel
theorem dX5_init_31 : decode cX5_init 31 = .ok (.aload_n 0, 1) := by decide +kernel
theorem dX5_init_32 : decode cX5_init 32 = .ok (.iload_n 3, 1) := by decide +kernel
theorem dX5_init_33 : decode cX5_init 33 = .ok (.putfield 27, 3) := by decide +kernel
theorem dX5_init_36 : decode cX5_init 36 = .ok (.return_, 1) := by decide +kernel
theorem dX5_dripIn_0 : decode cX5_dripIn 0 = .ok (.aload_n 0, 1) := by decide +kernel
theorem dX5_dripIn_1 : decode cX5_dripIn 1 = .ok (.getfield 30, 3) := by decide +kernel
theorem dX5_dripIn_4 : decode cX5_dripIn 4 = .ok (.ifCond .eq 7, 3) := by decide +kernel
theorem dX5_dripIn_7 : decode cX5_dripIn 7 = .ok (.iconst 0, 1) := by decide +kernel
theorem dX5_dripIn_8 : decode cX5_dripIn 8 = .ok (.goto 21, 3) := by decide +kernel
theorem dX5_dripIn_11 : decode cX5_dripIn 11 = .ok (.aload_n 0, 1) := by decide +kernel
theorem dX5_dripIn_12 : decode cX5_dripIn 12 = .ok (.getfield 24, 3) := by decide +kernel
theorem dX5_dripIn_15 : decode cX5_dripIn 15 = .ok (.iconst 1, 1) := by decide +kernel
theorem dX5_dripIn_16 : decode cX5_dripIn 16 = .ok (.iload_n 1, 1) := by decide +kernel
theorem dX5_dripIn_17 : decode cX5_dripIn 17 = .ok (.aload_n 0, 1) := by decide +kernel
theorem dX5_dripIn_18 : decode cX5_dripIn 18 = .ok (.getfield 27, 3) := by decide +kernel
theorem dX5_dripIn_21 : decode cX5_dripIn 21 = .ok (.isub, 1) := by decide +kernel
theorem dX5_dripIn_22 : decode cX5_dripIn 22 = .ok (.iconst 4, 1) := by decide +kernel
theorem dX5_dripIn_23 : decode cX5_dripIn 23 = .ok (.idiv, 1) := by decide +kernel
theorem dX5_dripIn_24 : decode cX5_dripIn 24 = .ok (.iadd, 1) := by decide +kernel
theorem dX5_dripIn_25 : decode cX5_dripIn 25 = .ok (.imul, 1) := by decide +kernel
theorem dX5_dripIn_26 : decode cX5_dripIn 26 = .ok (.bipush 10, 2) := by decide +kernel
theorem dX5_dripIn_28 : decode cX5_dripIn 28 = .ok (.idiv, 1) := by decide +kernel
theorem dX5_dripIn_29 : decode cX5_dripIn 29 = .ok (.ireturn, 1) := by decide +kernel
theorem dX5_layAnew_0 : decode cX5_layAnew 0 = .ok (.iload_n 1, 1) := by decide +kernel
theorem dX5_layAnew_1 : decode cX5_layAnew 1 = .ok (.aload_n 0, 1) := by decide +kernel
theorem dX5_layAnew_2 : decode cX5_layAnew 2 = .ok (.getfield 27, 3) := by decide +kernel
theorem dX5_layAnew_5 : decode cX5_layAnew 5 = .ok (.isub, 1) := by decide +kernel
theorem dX5_layAnew_6 : decode cX5_layAnew 6 = .ok (.istore_n 2, 1) := by decide +kernel
theorem dX5_layAnew_7 : decode cX5_layAnew 7 = .ok (.aload_n 0, 1) := by decide +kernel
theorem dX5_layAnew_8 : decode cX5_layAnew 8 = .ok (.iload_n 1, 1) := by decide +kernel
theorem dX5_layAnew_9 : decode cX5_layAnew 9 = .ok (.putfield 27, 3) := by decide +kernel
theorem dX5_layAnew_12 : decode cX5_layAnew 12 = .ok (.iload_n 2, 1) := by decide +kernel
theorem dX5_layAnew_13 : decode cX5_layAnew 13 = .ok (.ireturn, 1) := by decide +kernel
theorem dX5_setAtEnd_0 : decode cX5_setAtEnd 0 = .ok (.aload_n 0, 1) := by decide +kernel
theorem dX5_setAtEnd_1 : decode cX5_setAtEnd 1 = .ok (.iload_n 1, 1) := by decide +kernel
theorem dX5_setAtEnd_2 : decode cX5_setAtEnd 2 = .ok (.putfield 9, 3) := by decide +kernel
theorem dX5_setAtEnd_5 : decode cX5_setAtEnd 5 = .ok (.aload_n 0, 1) := by decide +kernel
theorem dX5_setAtEnd_6 : decode cX5_setAtEnd 6 = .ok (.iload_n 2, 1) := by decide +kernel
theorem dX5_setAtEnd_7 : decode cX5_setAtEnd 7 = .ok (.putfield 34, 3) := by decide +kernel
theorem dX5_setAtEnd_10 : decode cX5_setAtEnd 10 = .ok (.aload_n 0, 1) := by decide +kernel
theorem dX5_setAtEnd_11 : decode cX5_setAtEnd 11 = .ok (.iconst 0, 1) := by decide +kernel
theorem dX5_setAtEnd_12 : decode cX5_setAtEnd 12 = .ok (.putfield 37, 3) := by decide +kernel
theorem dX5_setAtEnd_15 : decode cX5_setAtEnd 15 = .ok (.aload_n 0, 1) := by decide +kernel
theorem dX5_setAtEnd_16 : decode cX5_setAtEnd 16 = .ok (.iconst 0, 1) := by decide +kernel
theorem dX5_setAtEnd_17 : decode cX5_setAtEnd 17 = .ok (.putfield 40, 3) := by decide +kernel
theorem dX5_setAtEnd_20 : decode cX5_setAtEnd 20 = .ok (.return_, 1) := by decide +kernel
theorem dX5_hemIn_0 : decode cX5_hemIn 0 = .ok (.aload_n 0, 1) := by decide +kernel
theorem dX5_hemIn_1 : decode cX5_hemIn 1 = .ok (.aload_n 0, 1) := by decide +kernel
theorem dX5_hemIn_2 : decode cX5_hemIn 2 = .ok (.getfield 15, 3) := by decide +kernel
theorem dX5_hemIn_5 : decode cX5_hemIn 5 = .ok (.iload_n 1, 1) := by decide +kernel
theorem dX5_hemIn_6 : decode cX5_hemIn 6 = .ok (.invokestatic 43, 3) := by decide +kernel
theorem dX5_hemIn_9 : decode cX5_hemIn 9 = .ok (.putfield 15, 3) := by decide +kernel
theorem dX5_hemIn_12 : decode cX5_hemIn 12 = .ok (.aload_n 0, 1) := by decide +kernel
theorem dX5_hemIn_13 : decode cX5_hemIn 13 = .ok (.aload_n 0, 1) := by decide +kernel
theorem dX5_hemIn_14 : decode cX5_hemIn 14 = .ok (.getfield 18, 3) := by decide +kernel
theorem dX5_hemIn_17 : decode cX5_hemIn 17 = .ok (.iload_n 2, 1) := by decide +kernel
theorem dX5_hemIn_18 : decode cX5_hemIn 18 = .ok (.invokestatic 49, 3) := by decide +kernel
theorem dX5_hemIn_21 : decode cX5_hemIn 21 = .ok (.putfield 18, 3) := by decide +kernel
theorem dX5_hemIn_24 : decode cX5_hemIn 24 = .ok (.return_, 1) := by decide +kernel
theorem dX5_admit_0 : decode cX5_admit 0 = .ok (.aconst_null, 1) := by decide +kernel
theorem dX5_admit_1 : decode cX5_admit 1 = .ok (.astore_n 2, 1) := by decide +kernel
theorem dX5_admit_2 : decode cX5_admit 2 = .ok (.aload_n 0, 1) := by decide +kernel
theorem dX5_admit_3 : decode cX5_admit 3 = .ok (.getfield 52, 3) := by decide +kernel
theorem dX5_admit_6 : decode cX5_admit 6 = .ok (.astore_n 3, 1) := by decide +kernel
theorem dX5_admit_7 : decode cX5_admit 7 = .ok (.aload_n 3, 1) := by decide +kernel
theorem dX5_admit_8 : decode cX5_admit 8 = .ok (.ifnull 24, 3) := by decide +kernel
theorem dX5_admit_11 : decode cX5_admit 11 = .ok (.aload_n 3, 1) := by decide +kernel
theorem dX5_admit_12 : decode cX5_admit 12 = .ok (.getfield 56, 3) := by decide +kernel
theorem dX5_admit_15 : decode cX5_admit 15 = .ok (.aload_n 1, 1) := by decide +kernel
theorem dX5_admit_16 : decode cX5_admit 16 = .ok (.getfield 56, 3) := by decide +kernel
theorem dX5_admit_19 : decode cX5_admit 19 = .ok (.if_icmp .gt 13, 3) := by decide +kernel
theorem dX5_admit_22 : decode cX5_admit 22 = .ok (.aload_n 3, 1) := by decide +kernel
theorem dX5_admit_23 : decode cX5_admit 23 = .ok (.astore_n 2, 1) := by decide +kernel
theorem dX5_admit_24 : decode cX5_admit 24 = .ok (.aload_n 3, 1) := by decide +kernel
theorem dX5_admit_25 : decode cX5_admit 25 = .ok (.getfield 61, 3) := by decide +kernel
theorem dX5_admit_28 : decode cX5_admit 28 = .ok (.astore_n 3, 1) := by decide +kernel
theorem dX5_admit_29 : decode cX5_admit 29 = .ok (.goto (-22), 3) := by decide +kernel
theorem dX5_admit_32 : decode cX5_admit 32 = .ok (.aload_n 2, 1) := by decide +kernel
theorem dX5_admit_33 : decode cX5_admit 33 = .ok (.ifnonnull 19, 3) := by decide +kernel
theorem dX5_admit_36 : decode cX5_admit 36 = .ok (.aload_n 1, 1) := by decide +kernel
theorem dX5_admit_37 : decode cX5_admit 37 = .ok (.aload_n 0, 1) := by decide +kernel
theorem dX5_admit_38 : decode cX5_admit 38 = .ok (.getfield 52, 3) := by decide +kernel
theorem dX5_admit_41 : decode cX5_admit 41 = .ok (.putfield 61, 3) := by decide +kernel
theorem dX5_admit_44 : decode cX5_admit 44 = .ok (.aload_n 0, 1) := by decide +kernel
theorem dX5_admit_45 : decode cX5_admit 45 = .ok (.aload_n 1, 1) := by decide +kernel
theorem dX5_admit_46 : decode cX5_admit 46 = .ok (.putfield 52, 3) := by decide +kernel
theorem dX5_admit_49 : decode cX5_admit 49 = .ok (.goto 16, 3) := by decide +kernel
theorem dX5_admit_52 : decode cX5_admit 52 = .ok (.aload_n 1, 1) := by decide +kernel
theorem dX5_admit_53 : decode cX5_admit 53 = .ok (.aload_n 2, 1) := by decide +kernel
theorem dX5_admit_54 : decode cX5_admit 54 = .ok (.getfield 61, 3) := by decide +kernel
theorem dX5_admit_57 : decode cX5_admit 57 = .ok (.putfield 61, 3) := by decide +kernel
theorem dX5_admit_60 : decode cX5_admit 60 = .ok (.aload_n 2, 1) := by decide +kernel
theorem dX5_admit_61 : decode cX5_admit 61 = .ok (.aload_n 1, 1) := by decide +kernel
theorem dX5_admit_62 : decode cX5_admit 62 = .ok (.putfield 61, 3) := by decide +kernel
theorem dX5_admit_65 : decode cX5_admit 65 = .ok (.return_, 1) := by decide +kernel
theorem dX5_takeFrom_0 : decode cX5_takeFrom 0 = .ok (.iload_n 1, 1) := by decide +kernel
theorem dX5_takeFrom_1 : decode cX5_takeFrom 1 = .ok (.aload_n 0, 1) := by decide +kernel
theorem dX5_takeFrom_2 : decode cX5_takeFrom 2 = .ok (.iload_n 1, 1) := by decide +kernel
theorem dX5_takeFrom_3 : decode cX5_takeFrom 3 = .ok (.aload_n 2, 1) := by decide +kernel
theorem dX5_takeFrom_4 : decode cX5_takeFrom 4 = .ok (.invokevirtual 64, 3) := by decide +kernel
theorem dX5_takeFrom_7 : decode cX5_takeFrom 7 = .ok (.isub, 1) := by decide +kernel
theorem dX5_takeFrom_8 : decode cX5_takeFrom 8 = .ok (.istore_n 3, 1) := by decide +kernel
theorem dX5_takeFrom_9 : decode cX5_takeFrom 9 = .ok (.iload_n 3, 1) := by decide +kernel
theorem dX5_takeFrom_10 : decode cX5_takeFrom 10 = .ok (.aload_n 0, 1) := by decide +kernel
theorem dX5_takeFrom_11 : decode cX5_takeFrom 11 = .ok (.iload_n 3, 1) := by decide +kernel
theorem dX5_takeFrom_12 : decode cX5_takeFrom 12 = .ok (.aload_n 2, 1) := by decide +kernel
theorem dX5_takeFrom_13 : decode cX5_takeFrom 13 = .ok (.invokevirtual 68, 3) := by decide +kernel
theorem dX5_takeFrom_16 : decode cX5_takeFrom 16 = .ok (.isub, 1) := by decide +kernel
theorem dX5_takeFrom_17 : decode cX5_takeFrom 17 = .ok (.istore_n 3, 1) := by decide +kernel
theorem dX5_takeFrom_18 : decode cX5_takeFrom 18 = .ok (.aload_n 0, 1) := by decide +kernel
theorem dX5_takeFrom_19 : decode cX5_takeFrom 19 = .ok (.getfield 52, 3) := by decide +kernel
theorem dX5_takeFrom_22 : decode cX5_takeFrom 22 = .ok (.astore 4, 2) := by decide +kernel
theorem dX5_takeFrom_24 : decode cX5_takeFrom 24 = .ok (.aload 4, 2) := by decide +kernel
theorem dX5_takeFrom_26 : decode cX5_takeFrom 26 = .ok (.ifnull 23, 3) := by decide +kernel
theorem dX5_takeFrom_29 : decode cX5_takeFrom 29 = .ok (.iload_n 3, 1) := by decide +kernel
theorem dX5_takeFrom_30 : decode cX5_takeFrom 30 = .ok (.aload 4, 2) := by decide +kernel
theorem dX5_takeFrom_32 : decode cX5_takeFrom 32 = .ok (.iload_n 3, 1) := by decide +kernel
theorem dX5_takeFrom_33 : decode cX5_takeFrom 33 = .ok (.aload_n 2, 1) := by decide +kernel
theorem dX5_takeFrom_34 : decode cX5_takeFrom 34 = .ok (.invokevirtual 71, 3) := by decide +kernel
theorem dX5_takeFrom_37 : decode cX5_takeFrom 37 = .ok (.isub, 1) := by decide +kernel
theorem dX5_takeFrom_38 : decode cX5_takeFrom 38 = .ok (.istore_n 3, 1) := by decide +kernel
theorem dX5_takeFrom_39 : decode cX5_takeFrom 39 = .ok (.aload 4, 2) := by decide +kernel
theorem dX5_takeFrom_41 : decode cX5_takeFrom 41 = .ok (.getfield 61, 3) := by decide +kernel
theorem dX5_takeFrom_44 : decode cX5_takeFrom 44 = .ok (.astore 4, 2) := by decide +kernel
theorem dX5_takeFrom_46 : decode cX5_takeFrom 46 = .ok (.goto (-22), 3) := by decide +kernel
theorem dX5_takeFrom_49 : decode cX5_takeFrom 49 = .ok (.iload_n 1, 1) := by decide +kernel
theorem dX5_takeFrom_50 : decode cX5_takeFrom 50 = .ok (.iload_n 3, 1) := by decide +kernel
theorem dX5_takeFrom_51 : decode cX5_takeFrom 51 = .ok (.isub, 1) := by decide +kernel
theorem dX5_takeFrom_52 : decode cX5_takeFrom 52 = .ok (.ireturn, 1) := by decide +kernel
theorem dX5_takeByPlug_0 : decode cX5_takeByPlug 0 = .ok (.aload_n 0, 1) := by decide +kernel
theorem dX5_takeByPlug_1 : decode cX5_takeByPlug 1 = .ok (.getfield 40, 3) := by decide +kernel
theorem dX5_takeByPlug_4 : decode cX5_takeByPlug 4 = .ok (.ifCond .ne 5, 3) := by decide +kernel
theorem dX5_takeByPlug_7 : decode cX5_takeByPlug 7 = .ok (.iconst 0, 1) := by decide +kernel
theorem dX5_takeByPlug_8 : decode cX5_takeByPlug 8 = .ok (.ireturn, 1) := by decide +kernel
theorem dX5_takeByPlug_9 : decode cX5_takeByPlug 9 = .ok (.bipush 60, 2) := by decide +kernel
theorem dX5_takeByPlug_11 : decode cX5_takeByPlug 11 = .ok (.iload_n 1, 1) := by decide +kernel
theorem dX5_takeByPlug_12 : decode cX5_takeByPlug 12 = .ok (.invokestatic 49, 3) := by decide +kernel
theorem dX5_takeByPlug_15 : decode cX5_takeByPlug 15 = .ok (.istore_n 3, 1) := by decide +kernel
theorem dX5_takeByPlug_16 : decode cX5_takeByPlug 16 = .ok (.aload_n 2, 1) := by decide +kernel
theorem dX5_takeByPlug_17 : decode cX5_takeByPlug 17 = .ok (.dup, 1) := by decide +kernel
theorem dX5_takeByPlug_18 : decode cX5_takeByPlug 18 = .ok (.getfield 74, 3) := by decide +kernel
theorem dX5_takeByPlug_21 : decode cX5_takeByPlug 21 = .ok (.iload_n 3, 1) := by decide +kernel
theorem dX5_takeByPlug_22 : decode cX5_takeByPlug 22 = .ok (.iadd, 1) := by decide +kernel
theorem dX5_takeByPlug_23 : decode cX5_takeByPlug 23 = .ok (.putfield 74, 3) := by decide +kernel
theorem dX5_takeByPlug_26 : decode cX5_takeByPlug 26 = .ok (.iload_n 3, 1) := by decide +kernel
theorem dX5_takeByPlug_27 : decode cX5_takeByPlug 27 = .ok (.ireturn, 1) := by decide +kernel
theorem dX5_takeByTun_0 : decode cX5_takeByTun 0 = .ok (.iload_n 1, 1) := by decide +kernel
theorem dX5_takeByTun_1 : decode cX5_takeByTun 1 = .ok (.bipush 40, 2) := by decide +kernel
theorem dX5_takeByTun_3 : decode cX5_takeByTun 3 = .ok (.aload_n 0, 1) := by decide +kernel
theorem dX5_takeByTun_4 : decode cX5_takeByTun 4 = .ok (.getfield 34, 3) := by decide +kernel
theorem dX5_takeByTun_7 : decode cX5_takeByTun 7 = .ok (.aload_n 0, 1) := by decide +kernel
theorem dX5_takeByTun_8 : decode cX5_takeByTun 8 = .ok (.getfield 37, 3) := by decide +kernel
theorem dX5_takeByTun_11 : decode cX5_takeByTun 11 = .ok (.isub, 1) := by decide +kernel
theorem dX5_takeByTun_12 : decode cX5_takeByTun 12 = .ok (.invokestatic 49, 3) := by decide +kernel
theorem dX5_takeByTun_15 : decode cX5_takeByTun 15 = .ok (.invokestatic 49, 3) := by decide +kernel
theorem dX5_takeByTun_18 : decode cX5_takeByTun 18 = .ok (.istore_n 3, 1) := by decide +kernel
theorem dX5_takeByTun_19 : decode cX5_takeByTun 19 = .ok (.aload_n 0, 1) := by decide +kernel
theorem dX5_takeByTun_20 : decode cX5_takeByTun 20 = .ok (.dup, 1) := by decide +kernel
theorem dX5_takeByTun_21 : decode cX5_takeByTun 21 = .ok (.getfield 37, 3) := by decide +kernel
theorem dX5_takeByTun_24 : decode cX5_takeByTun 24 = .ok (.iload_n 3, 1) := by decide +kernel
theorem dX5_takeByTun_25 : decode cX5_takeByTun 25 = .ok (.iadd, 1) := by decide +kernel
theorem dX5_takeByTun_26 : decode cX5_takeByTun 26 = .ok (.putfield 37, 3) := by decide +kernel
theorem dX5_takeByTun_29 : decode cX5_takeByTun 29 = .ok (.aload_n 2, 1) := by decide +kernel
theorem dX5_takeByTun_30 : decode cX5_takeByTun 30 = .ok (.dup, 1) := by decide +kernel
theorem dX5_takeByTun_31 : decode cX5_takeByTun 31 = .ok (.getfield 79, 3) := by decide +kernel
theorem dX5_takeByTun_34 : decode cX5_takeByTun 34 = .ok (.iload_n 3, 1) := by decide +kernel
theorem dX5_takeByTun_35 : decode cX5_takeByTun 35 = .ok (.iadd, 1) := by decide +kernel
theorem dX5_takeByTun_36 : decode cX5_takeByTun 36 = .ok (.putfield 79, 3) := by decide +kernel
theorem dX5_takeByTun_39 : decode cX5_takeByTun 39 = .ok (.iload_n 3, 1) := by decide +kernel
theorem dX5_takeByTun_40 : decode cX5_takeByTun 40 = .ok (.ireturn, 1) := by decide +kernel
theorem dX5_roomNow_0 : decode cX5_roomNow 0 = .ok (.aload_n 0, 1) := by decide +kernel
theorem dX5_roomNow_1 : decode cX5_roomNow 1 = .ok (.getfield 34, 3) := by decide +kernel
theorem dX5_roomNow_4 : decode cX5_roomNow 4 = .ok (.aload_n 0, 1) := by decide +kernel
theorem dX5_roomNow_5 : decode cX5_roomNow 5 = .ok (.getfield 37, 3) := by decide +kernel
theorem dX5_roomNow_8 : decode cX5_roomNow 8 = .ok (.isub, 1) := by decide +kernel
theorem dX5_roomNow_9 : decode cX5_roomNow 9 = .ok (.istore_n 1, 1) := by decide +kernel
theorem dX5_roomNow_10 : decode cX5_roomNow 10 = .ok (.aload_n 0, 1) := by decide +kernel
theorem dX5_roomNow_11 : decode cX5_roomNow 11 = .ok (.getfield 52, 3) := by decide +kernel
theorem dX5_roomNow_14 : decode cX5_roomNow 14 = .ok (.astore_n 2, 1) := by decide +kernel
theorem dX5_roomNow_15 : decode cX5_roomNow 15 = .ok (.aload_n 2, 1) := by decide +kernel
theorem dX5_roomNow_16 : decode cX5_roomNow 16 = .ok (.ifnull 18, 3) := by decide +kernel
theorem dX5_roomNow_19 : decode cX5_roomNow 19 = .ok (.iload_n 1, 1) := by decide +kernel
theorem dX5_roomNow_20 : decode cX5_roomNow 20 = .ok (.aload_n 2, 1) := by decide +kernel
theorem dX5_roomNow_21 : decode cX5_roomNow 21 = .ok (.invokevirtual 82, 3) := by decide +kernel
theorem dX5_roomNow_24 : decode cX5_roomNow 24 = .ok (.iadd, 1) := by decide +kernel
theorem dX5_roomNow_25 : decode cX5_roomNow 25 = .ok (.istore_n 1, 1) := by decide +kernel
theorem dX5_roomNow_26 : decode cX5_roomNow 26 = .ok (.aload_n 2, 1) := by decide +kernel
theorem dX5_roomNow_27 : decode cX5_roomNow 27 = .ok (.getfield 61, 3) := by decide +kernel
theorem dX5_roomNow_30 : decode cX5_roomNow 30 = .ok (.astore_n 2, 1) := by decide +kernel
theorem dX5_roomNow_31 : decode cX5_roomNow 31 = .ok (.goto (-16), 3) := by decide +kernel
theorem dX5_roomNow_34 : decode cX5_roomNow 34 = .ok (.iload_n 1, 1) := by decide +kernel
theorem dX5_roomNow_35 : decode cX5_roomNow 35 = .ok (.ireturn, 1) := by decide +kernel
theorem dX6_init_0 : decode cX6_init 0 = .ok (.aload_n 0, 1) := by decide +kernel
theorem dX6_init_1 : decode cX6_init 1 = .ok (.invokespecial 1, 3) := by decide +kernel
theorem dX6_init_4 : decode cX6_init 4 = .ok (.return_, 1) := by decide +kernel
theorem dX7_init_0 : decode cX7_init 0 = .ok (.aload_n 0, 1) := by decide +kernel
theorem dX7_init_1 : decode cX7_init 1 = .ok (.invokespecial 3, 3) := by decide +kernel
theorem dX7_init_4 : decode cX7_init 4 = .ok (.aload_n 0, 1) := by decide +kernel
theorem dX7_init_5 : decode cX7_init 5 = .ok (.iload_n 1, 1) := by decide +kernel
theorem dX7_init_6 : decode cX7_init 6 = .ok (.putfield 9, 3) := by decide +kernel
theorem dX7_init_9 : decode cX7_init 9 = .ok (.aload_n 0, 1) := by decide +kernel
theorem dX7_init_10 : decode cX7_init 10 = .ok (.iload_n 2, 1) := by decide +kernel
theorem dX7_init_11 : decode cX7_init 11 = .ok (.putfield 15, 3) := by decide +kernel
theorem dX7_init_14 : decode cX7_init 14 = .ok (.aload_n 0, 1) := by decide +kernel
theorem dX7_init_15 : decode cX7_init 15 = .ok (.iload_n 3, 1) := by decide +kernel
theorem dX7_init_16 : decode cX7_init 16 = .ok (.putfield 18, 3) := by decide +kernel
theorem dX7_init_19 : decode cX7_init 19 = .ok (.aload_n 0, 1) := by decide +kernel
theorem dX7_init_20 : decode cX7_init 20 = .ok (.iload 4, 2) := by decide +kernel
theorem dX7_init_22 : decode cX7_init 22 = .ok (.putfield 21, 3) := by decide +kernel
theorem dX7_init_25 : decode cX7_init 25 = .ok (.return_, 1) := by decide +kernel
theorem dX7_hoursUntil_0 : decode cX7_hoursUntil 0 = .ok (.aload_n 1, 1) := by decide +kernel
theorem dX7_hoursUntil_1 : decode cX7_hoursUntil 1 = .ok (.getfield 18, 3) := by decide +kernel
theorem dX7_hoursUntil_4 : decode cX7_hoursUntil 4 = .ok (.aload_n 0, 1) := by decide +kernel
theorem dX7_hoursUntil_5 : decode cX7_hoursUntil 5 = .ok (.getfield 18, 3) := by decide +kernel
theorem dX7_hoursUntil_8 : decode cX7_hoursUntil 8 = .ok (.isub, 1) := by decide +kernel
theorem dX7_hoursUntil_9 : decode cX7_hoursUntil 9 = .ok (.sipush 168, 3) := by decide +kernel
theorem dX7_hoursUntil_12 : decode cX7_hoursUntil 12 = .ok (.invokestatic 24, 3) := by decide +kernel
theorem dX7_hoursUntil_15 : decode cX7_hoursUntil 15 = .ok (.ireturn, 1) := by decide +kernel
theorem dX7_sharesHourWith_0 : decode cX7_sharesHourWith 0 = .ok (.aload_n 0, 1) := by decide +kernel
theorem dX7_sharesHourWith_1 : decode cX7_sharesHourWith 1 = .ok (.aload_n 1, 1) := by decide +kernel
theorem dX7_sharesHourWith_2 : decode cX7_sharesHourWith 2 = .ok (.invokevirtual 30, 3) := by decide +kernel
theorem dX7_sharesHourWith_5 : decode cX7_sharesHourWith 5 = .ok (.aload_n 0, 1) := by decide +kernel
theorem dX7_sharesHourWith_6 : decode cX7_sharesHourWith 6 = .ok (.getfield 21, 3) := by decide +kernel
theorem dX7_sharesHourWith_9 : decode cX7_sharesHourWith 9 = .ok (.if_icmp .lt 15, 3) := by decide +kernel
theorem dX7_sharesHourWith_12 : decode cX7_sharesHourWith 12 = .ok (.aload_n 1, 1) := by decide +kernel
theorem dX7_sharesHourWith_13 : decode cX7_sharesHourWith 13 = .ok (.aload_n 0, 1) := by decide +kernel
theorem dX7_sharesHourWith_14 : decode cX7_sharesHourWith 14 = .ok (.invokevirtual 30, 3) := by decide +kernel
theorem dX7_sharesHourWith_17 : decode cX7_sharesHourWith 17 = .ok (.aload_n 1, 1) := by decide +kernel
theorem dX7_sharesHourWith_18 : decode cX7_sharesHourWith 18 = .ok (.getfield 21, 3) := by decide +kernel
theorem dX7_sharesHourWith_21 : decode cX7_sharesHourWith 21 = .ok (.if_icmp .ge 7, 3) := by decide +kernel
theorem dX7_sharesHourWith_24 : decode cX7_sharesHourWith 24 = .ok (.iconst 1, 1) := by decide +kernel
theorem dX7_sharesHourWith_25 : decode cX7_sharesHourWith 25 = .ok (.goto 4, 3) := by decide +kernel
theorem dX7_sharesHourWith_28 : decode cX7_sharesHourWith 28 = .ok (.iconst 0, 1) := by decide +kernel
theorem dX7_sharesHourWith_29 : decode cX7_sharesHourWith 29 = .ok (.ireturn, 1) := by decide +kernel
theorem dX8_init_0 : decode cX8_init 0 = .ok (.aload_n 0, 1) := by decide +kernel
theorem dX8_init_1 : decode cX8_init 1 = .ok (.invokespecial 3, 3) := by decide +kernel
theorem dX8_init_4 : decode cX8_init 4 = .ok (.aload_n 0, 1) := by decide +kernel
theorem dX8_init_5 : decode cX8_init 5 = .ok (.sipush 168, 3) := by decide +kernel
theorem dX8_init_8 : decode cX8_init 8 = .ok (.newarray .int, 2) := by decide +kernel
theorem dX8_init_10 : decode cX8_init 10 = .ok (.putfield 9, 3) := by decide +kernel
theorem dX8_init_13 : decode cX8_init 13 = .ok (.aload_n 0, 1) := by decide +kernel
theorem dX8_init_14 : decode cX8_init 14 = .ok (.sipush 168, 3) := by decide +kernel
theorem dX8_init_17 : decode cX8_init 17 = .ok (.newarray .int, 2) := by decide +kernel
theorem dX8_init_19 : decode cX8_init 19 = .ok (.putfield 15, 3) := by decide +kernel
theorem dX8_init_22 : decode cX8_init 22 = .ok (.return_, 1) := by decide +kernel
theorem dX8_letStreets_0 : decode cX8_letStreets 0 = .ok (.aload_n 0, 1) := by decide +kernel
theorem dX8_letStreets_1 : decode cX8_letStreets 1 = .ok (.getfield 9, 3) := by decide +kernel
theorem dX8_letStreets_4 : decode cX8_letStreets 4 = .ok (.iload_n 1, 1) := by decide +kernel
theorem dX8_letStreets_5 : decode cX8_letStreets 5 = .ok (.sipush 168, 3) := by decide +kernel
theorem dX8_letStreets_8 : decode cX8_letStreets 8 = .ok (.invokestatic 18, 3) := by decide +kernel
theorem dX8_letStreets_11 : decode cX8_letStreets 11 = .ok (.iaload, 1) := by decide +kernel
theorem dX8_letStreets_12 : decode cX8_letStreets 12 = .ok (.ireturn, 1) := by decide +kernel
theorem dX8_openStreets_0 : decode cX8_openStreets 0 = .ok (.aload_n 0, 1) := by decide +kernel
theorem dX8_openStreets_1 : decode cX8_openStreets 1 = .ok (.getfield 15, 3) := by decide +kernel
theorem dX8_openStreets_4 : decode cX8_openStreets 4 = .ok (.iload_n 1, 1) := by decide +kernel
theorem dX8_openStreets_5 : decode cX8_openStreets 5 = .ok (.sipush 168, 3) := by decide +kernel
theorem dX8_openStreets_8 : decode cX8_openStreets 8 = .ok (.invokestatic 18, 3) := by decide +kernel
theorem dX8_openStreets_11 : decode cX8_openStreets 11 = .ok (.iaload, 1) := by decide +kernel
theorem dX8_openStreets_12 : decode cX8_openStreets 12 = .ok (.ireturn, 1) := by decide +kernel
theorem dX8_hoursOpen_0 : decode cX8_hoursOpen 0 = .ok (.iconst 0, 1) := by decide +kernel
theorem dX8_hoursOpen_1 : decode cX8_hoursOpen 1 = .ok (.istore_n 2, 1) := by decide +kernel
theorem dX8_hoursOpen_2 : decode cX8_hoursOpen 2 = .ok (.iconst 0, 1) := by decide +kernel
theorem dX8_hoursOpen_3 : decode cX8_hoursOpen 3 = .ok (.istore_n 3, 1) := by decide +kernel
theorem dX8_hoursOpen_4 : decode cX8_hoursOpen 4 = .ok (.iload_n 3, 1) := by decide +kernel
theorem dX8_hoursOpen_5 : decode cX8_hoursOpen 5 = .ok (.sipush 168, 3) := by decide +kernel
theorem dX8_hoursOpen_8 : decode cX8_hoursOpen 8 = .ok (.if_icmp .ge 22, 3) := by decide +kernel
theorem dX8_hoursOpen_11 : decode cX8_hoursOpen 11 = .ok (.iload_n 2, 1) := by decide +kernel
theorem dX8_hoursOpen_12 : decode cX8_hoursOpen 12 = .ok (.aload_n 0, 1) := by decide +kernel
theorem dX8_hoursOpen_13 : decode cX8_hoursOpen 13 = .ok (.getfield 15, 3) := by decide +kernel
theorem dX8_hoursOpen_16 : decode cX8_hoursOpen 16 = .ok (.iload_n 3, 1) := by decide +kernel
theorem dX8_hoursOpen_17 : decode cX8_hoursOpen 17 = .ok (.iaload, 1) := by decide +kernel
theorem dX8_hoursOpen_18 : decode cX8_hoursOpen 18 = .ok (.iload_n 1, 1) := by decide +kernel
theorem dX8_hoursOpen_19 : decode cX8_hoursOpen 19 = .ok (.ishr, 1) := by decide +kernel
theorem dX8_hoursOpen_20 : decode cX8_hoursOpen 20 = .ok (.iconst 1, 1) := by decide +kernel
theorem dX8_hoursOpen_21 : decode cX8_hoursOpen 21 = .ok (.iand, 1) := by decide +kernel
theorem dX8_hoursOpen_22 : decode cX8_hoursOpen 22 = .ok (.iadd, 1) := by decide +kernel
theorem dX8_hoursOpen_23 : decode cX8_hoursOpen 23 = .ok (.istore_n 2, 1) := by decide +kernel
theorem dX8_hoursOpen_24 : decode cX8_hoursOpen 24 = .ok (.iinc 3 1, 3) := by decide +kernel
theorem dX8_hoursOpen_27 : decode cX8_hoursOpen 27 = .ok (.goto (-23), 3) := by decide +kernel
theorem dX8_hoursOpen_30 : decode cX8_hoursOpen 30 = .ok (.iload_n 2, 1) := by decide +kernel
theorem dX8_hoursOpen_31 : decode cX8_hoursOpen 31 = .ok (.ireturn, 1) := by decide +kernel
theorem dX8_add_0 : decode cX8_add 0 = .ok (.iconst 0, 1) := by decide +kernel
theorem dX8_add_1 : decode cX8_add 1 = .ok (.istore_n 3, 1) := by decide +kernel
theorem dX8_add_2 : decode cX8_add 2 = .ok (.iload_n 3, 1) := by decide +kernel
theorem dX8_add_3 : decode cX8_add 3 = .ok (.aload_n 1, 1) := by decide +kernel
theorem dX8_add_4 : decode cX8_add 4 = .ok (.getfield 24, 3) := by decide +kernel
theorem dX8_add_7 : decode cX8_add 7 = .ok (.if_icmp .ge 57, 3) := by decide +kernel
theorem dX8_add_10 : decode cX8_add 10 = .ok (.aload_n 1, 1) := by decide +kernel
theorem dX8_add_11 : decode cX8_add 11 = .ok (.getfield 30, 3) := by decide +kernel
theorem dX8_add_14 : decode cX8_add 14 = .ok (.iload_n 3, 1) := by decide +kernel
theorem dX8_add_15 : decode cX8_add 15 = .ok (.iadd, 1) := by decide +kernel
theorem dX8_add_16 : decode cX8_add 16 = .ok (.sipush 168, 3) := by decide +kernel
theorem dX8_add_19 : decode cX8_add 19 = .ok (.invokestatic 18, 3) := by decide +kernel
theorem dX8_add_22 : decode cX8_add 22 = .ok (.istore 4, 2) := by decide +kernel
theorem dX8_add_24 : decode cX8_add 24 = .ok (.aload_n 0, 1) := by decide +kernel
theorem dX8_add_25 : decode cX8_add 25 = .ok (.getfield 9, 3) := by decide +kernel
theorem dX8_add_28 : decode cX8_add 28 = .ok (.iload 4, 2) := by decide +kernel
theorem dX8_add_30 : decode cX8_add 30 = .ok (.dup2, 1) := by decide +kernel
theorem dX8_add_31 : decode cX8_add 31 = .ok (.iaload, 1) := by decide +kernel
theorem dX8_add_32 : decode cX8_add 32 = .ok (.iconst 1, 1) := by decide +kernel
theorem dX8_add_33 : decode cX8_add 33 = .ok (.aload_n 1, 1) := by decide +kernel
theorem dX8_add_34 : decode cX8_add 34 = .ok (.getfield 33, 3) := by decide +kernel
theorem dX8_add_37 : decode cX8_add 37 = .ok (.ishl, 1) := by decide +kernel
theorem dX8_add_38 : decode cX8_add 38 = .ok (.ior, 1) := by decide +kernel
theorem dX8_add_39 : decode cX8_add 39 = .ok (.iastore, 1) := by decide +kernel
theorem dX8_add_40 : decode cX8_add 40 = .ok (.aload_n 0, 1) := by decide +kernel
theorem dX8_add_41 : decode cX8_add 41 = .ok (.getfield 15, 3) := by decide +kernel
theorem dX8_add_44 : decode cX8_add 44 = .ok (.iload 4, 2) := by decide +kernel
theorem dX8_add_46 : decode cX8_add 46 = .ok (.aload_n 0, 1) := by decide +kernel
theorem dX8_add_47 : decode cX8_add 47 = .ok (.getfield 9, 3) := by decide +kernel
theorem dX8_add_50 : decode cX8_add 50 = .ok (.iload 4, 2) := by decide +kernel
theorem dX8_add_52 : decode cX8_add 52 = .ok (.iaload, 1) := by decide +kernel
theorem dX8_add_53 : decode cX8_add 53 = .ok (.aload_n 2, 1) := by decide +kernel
theorem dX8_add_54 : decode cX8_add 54 = .ok (.invokestatic 36, 3) := by decide +kernel
theorem dX8_add_57 : decode cX8_add 57 = .ok (.iastore, 1) := by decide +kernel
theorem dX8_add_58 : decode cX8_add 58 = .ok (.iinc 3 1, 3) := by decide +kernel
theorem dX8_add_61 : decode cX8_add 61 = .ok (.goto (-59), 3) := by decide +kernel
theorem dX8_add_64 : decode cX8_add 64 = .ok (.return_, 1) := by decide +kernel
theorem dX8_openOf_0 : decode cX8_openOf 0 = .ok (.iconst 0, 1) := by decide +kernel
theorem dX8_openOf_1 : decode cX8_openOf 1 = .ok (.istore_n 2, 1) := by decide +kernel
theorem dX8_openOf_2 : decode cX8_openOf 2 = .ok (.iconst 0, 1) := by decide +kernel
theorem dX8_openOf_3 : decode cX8_openOf 3 = .ok (.istore_n 3, 1) := by decide +kernel
theorem dX8_openOf_4 : decode cX8_openOf 4 = .ok (.iload_n 3, 1) := by decide +kernel
theorem dX8_openOf_5 : decode cX8_openOf 5 = .ok (.aload_n 1, 1) := by decide +kernel
theorem dX8_openOf_6 : decode cX8_openOf 6 = .ok (.invokevirtual 40, 3) := by decide +kernel
theorem dX8_openOf_9 : decode cX8_openOf 9 = .ok (.if_icmp .ge 63, 3) := by decide +kernel
theorem dX8_openOf_12 : decode cX8_openOf 12 = .ok (.aload_n 1, 1) := by decide +kernel
theorem dX8_openOf_13 : decode cX8_openOf 13 = .ok (.iload_n 3, 1) := by decide +kernel
theorem dX8_openOf_14 : decode cX8_openOf 14 = .ok (.invokevirtual 46, 3) := by decide +kernel
theorem dX8_openOf_17 : decode cX8_openOf 17 = .ok (.checkcast 50, 3) := by decide +kernel
theorem dX8_openOf_20 : decode cX8_openOf 20 = .ok (.getfield 52, 3) := by decide +kernel
theorem dX8_openOf_23 : decode cX8_openOf 23 = .ok (.istore 4, 2) := by decide +kernel
theorem dX8_openOf_25 : decode cX8_openOf 25 = .ok (.iload 4, 2) := by decide +kernel
theorem dX8_openOf_27 : decode cX8_openOf 27 = .ok (.iconst (-1), 1) := by decide +kernel
theorem dX8_openOf_28 : decode cX8_openOf 28 = .ok (.if_icmp .eq 12, 3) := by decide +kernel
theorem dX8_openOf_31 : decode cX8_openOf 31 = .ok (.iload_n 2, 1) := by decide +kernel
theorem dX8_openOf_32 : decode cX8_openOf 32 = .ok (.iload 4, 2) := by decide +kernel
theorem dX8_openOf_34 : decode cX8_openOf 34 = .ok (.invokestatic 55, 3) := by decide +kernel
theorem dX8_openOf_37 : decode cX8_openOf 37 = .ok (.ifCond .eq 7, 3) := by decide +kernel
theorem dX8_openOf_40 : decode cX8_openOf 40 = .ok (.iconst 1, 1) := by decide +kernel
theorem dX8_openOf_41 : decode cX8_openOf 41 = .ok (.goto 4, 3) := by decide +kernel
theorem dX8_openOf_44 : decode cX8_openOf 44 = .ok (.iconst 0, 1) := by decide +kernel
theorem dX8_openOf_45 : decode cX8_openOf 45 = .ok (.istore 5, 2) := by decide +kernel
theorem dX8_openOf_47 : decode cX8_openOf 47 = .ok (.iload 5, 2) := by decide +kernel
theorem dX8_openOf_49 : decode cX8_openOf 49 = .ok (.ifCond .eq 17, 3) := by decide +kernel
theorem dX8_openOf_52 : decode cX8_openOf 52 = .ok (.iload_n 0, 1) := by decide +kernel
theorem dX8_openOf_53 : decode cX8_openOf 53 = .ok (.iload_n 3, 1) := by decide +kernel
theorem dX8_openOf_54 : decode cX8_openOf 54 = .ok (.invokestatic 55, 3) := by decide +kernel
theorem dX8_openOf_57 : decode cX8_openOf 57 = .ok (.ifCond .eq 9, 3) := by decide +kernel
theorem dX8_openOf_60 : decode cX8_openOf 60 = .ok (.iload_n 2, 1) := by decide +kernel
theorem dX8_openOf_61 : decode cX8_openOf 61 = .ok (.iconst 1, 1) := by decide +kernel
theorem dX8_openOf_62 : decode cX8_openOf 62 = .ok (.iload_n 3, 1) := by decide +kernel
theorem dX8_openOf_63 : decode cX8_openOf 63 = .ok (.ishl, 1) := by decide +kernel
theorem dX8_openOf_64 : decode cX8_openOf 64 = .ok (.ior, 1) := by decide +kernel
theorem dX8_openOf_65 : decode cX8_openOf 65 = .ok (.istore_n 2, 1) := by decide +kernel
theorem dX8_openOf_66 : decode cX8_openOf 66 = .ok (.iinc 3 1, 3) := by decide +kernel
theorem dX8_openOf_69 : decode cX8_openOf 69 = .ok (.goto (-65), 3) := by decide +kernel
theorem dX8_openOf_72 : decode cX8_openOf 72 = .ok (.iload_n 2, 1) := by decide +kernel
theorem dX8_openOf_73 : decode cX8_openOf 73 = .ok (.ireturn, 1) := by decide +kernel
theorem dX9_init_0 : decode cX9_init 0 = .ok (.aload_n 0, 1) := by decide +kernel
theorem dX9_init_1 : decode cX9_init 1 = .ok (.invokespecial 1, 3) := by decide +kernel
theorem dX9_init_4 : decode cX9_init 4 = .ok (.aload_n 0, 1) := by decide +kernel
theorem dX9_init_5 : decode cX9_init 5 = .ok (.new 7, 3) := by decide +kernel
theorem dX9_init_8 : decode cX9_init 8 = .ok (.dup, 1) := by decide +kernel
theorem dX9_init_9 : decode cX9_init 9 = .ok (.invokespecial 9, 3) := by decide +kernel
theorem dX9_init_12 : decode cX9_init 12 = .ok (.putfield 10, 3) := by decide +kernel
theorem dX9_init_15 : decode cX9_init 15 = .ok (.aload_n 0, 1) := by decide +kernel
theorem dX9_init_16 : decode cX9_init 16 = .ok (.new 7, 3) := by decide +kernel
theorem dX9_init_19 : decode cX9_init 19 = .ok (.dup, 1) := by decide +kernel
theorem dX9_init_20 : decode cX9_init 20 = .ok (.invokespecial 9, 3) := by decide +kernel
theorem dX9_init_23 : decode cX9_init 23 = .ok (.putfield 16, 3) := by decide +kernel
theorem dX9_init_26 : decode cX9_init 26 = .ok (.aload_n 0, 1) := by decide +kernel
theorem dX9_init_27 : decode cX9_init 27 = .ok (.new 7, 3) := by decide +kernel
theorem dX9_init_30 : decode cX9_init 30 = .ok (.dup, 1) := by decide +kernel
theorem dX9_init_31 : decode cX9_init 31 = .ok (.invokespecial 9, 3) := by decide +kernel
theorem dX9_init_34 : decode cX9_init 34 = .ok (.putfield 19, 3) := by decide +kernel
theorem dX9_init_37 : decode cX9_init 37 = .ok (.aload_n 0, 1) := by decide +kernel
theorem dX9_init_38 : decode cX9_init 38 = .ok (.new 7, 3) := by decide +kernel
theorem dX9_init_41 : decode cX9_init 41 = .ok (.dup, 1) := by decide +kernel
theorem dX9_init_42 : decode cX9_init 42 = .ok (.invokespecial 9, 3) := by decide +kernel
theorem dX9_init_45 : decode cX9_init 45 = .ok (.putfield 22, 3) := by decide +kernel
theorem dX9_init_48 : decode cX9_init 48 = .ok (.aload_n 0, 1) := by decide +kernel
theorem dX9_init_49 : decode cX9_init 49 = .ok (.iconst 4, 1) := by decide +kernel
theorem dX9_init_50 : decode cX9_init 50 = .ok (.anewarray 25, 3) := by decide +kernel
theorem dX9_init_53 : decode cX9_init 53 = .ok (.putfield 27, 3) := by decide +kernel
theorem dX9_init_56 : decode cX9_init 56 = .ok (.aload_n 0, 1) := by decide +kernel
theorem dX9_init_57 : decode cX9_init 57 = .ok (.iconst 3, 1) := by decide +kernel
theorem dX9_init_58 : decode cX9_init 58 = .ok (.newarray .int, 2) := by decide +kernel
theorem dX9_init_60 : decode cX9_init 60 = .ok (.dup, 1) := by decide +kernel
theorem dX9_init_61 : decode cX9_init 61 = .ok (.iconst 0, 1) := by decide +kernel
theorem dX9_init_62 : decode cX9_init 62 = .ok (.iconst (-1), 1) := by decide +kernel
theorem dX9_init_63 : decode cX9_init 63 = .ok (.iastore, 1) := by decide +kernel
theorem dX9_init_64 : decode cX9_init 64 = .ok (.dup, 1) := by decide +kernel
theorem dX9_init_65 : decode cX9_init 65 = .ok (.iconst 1, 1) := by decide +kernel
theorem dX9_init_66 : decode cX9_init 66 = .ok (.iconst (-1), 1) := by decide +kernel
theorem dX9_init_67 : decode cX9_init 67 = .ok (.iastore, 1) := by decide +kernel
theorem dX9_init_68 : decode cX9_init 68 = .ok (.dup, 1) := by decide +kernel
theorem dX9_init_69 : decode cX9_init 69 = .ok (.iconst 2, 1) := by decide +kernel
theorem dX9_init_70 : decode cX9_init 70 = .ok (.iconst (-1), 1) := by decide +kernel
theorem dX9_init_71 : decode cX9_init 71 = .ok (.iastore, 1) := by decide +kernel
theorem dX9_init_72 : decode cX9_init 72 = .ok (.putfield 31, 3) := by decide +kernel
theorem dX9_init_75 : decode cX9_init 75 = .ok (.aload_n 0, 1) := by decide +kernel
theorem dX9_init_76 : decode cX9_init 76 = .ok (.iconst 3, 1) := by decide +kernel
theorem dX9_init_77 : decode cX9_init 77 = .ok (.newarray .int, 2) := by decide +kernel
theorem dX9_init_79 : decode cX9_init 79 = .ok (.dup, 1) := by decide +kernel
theorem dX9_init_80 : decode cX9_init 80 = .ok (.iconst 0, 1) := by decide +kernel
theorem dX9_init_81 : decode cX9_init 81 = .ok (.bipush 100, 2) := by decide +kernel
theorem dX9_init_83 : decode cX9_init 83 = .ok (.iastore, 1) := by decide +kernel
theorem dX9_init_84 : decode cX9_init 84 = .ok (.dup, 1) := by decide +kernel
theorem dX9_init_85 : decode cX9_init 85 = .ok (.iconst 1, 1) := by decide +kernel
theorem dX9_init_86 : decode cX9_init 86 = .ok (.iconst 1, 1) := by decide +kernel
theorem dX9_init_87 : decode cX9_init 87 = .ok (.iastore, 1) := by decide +kernel
theorem dX9_init_88 : decode cX9_init 88 = .ok (.dup, 1) := by decide +kernel
theorem dX9_init_89 : decode cX9_init 89 = .ok (.iconst 2, 1) := by decide +kernel
theorem dX9_init_90 : decode cX9_init 90 = .ok (.bipush 10, 2) := by decide +kernel
theorem dX9_init_92 : decode cX9_init 92 = .ok (.iastore, 1) := by decide +kernel
theorem dX9_init_93 : decode cX9_init 93 = .ok (.putfield 35, 3) := by decide +kernel
theorem dX9_init_96 : decode cX9_init 96 = .ok (.aload_n 0, 1) := by decide +kernel
theorem dX9_init_97 : decode cX9_init 97 = .ok (.bipush 8, 2) := by decide +kernel
theorem dX9_init_99 : decode cX9_init 99 = .ok (.newarray .int, 2) := by decide +kernel
theorem dX9_init_101 : decode cX9_init 101 = .ok (.putfield 38, 3) := by decide +kernel
theorem dX9_init_104 : decode cX9_init 104 = .ok (.aload_n 0, 1) := by decide +kernel
theorem dX9_init_105 : decode cX9_init 105 = .ok (.new 41, 3) := by decide +kernel
theorem dX9_init_108 : decode cX9_init 108 = .ok (.dup, 1) := by decide +kernel
theorem dX9_init_109 : decode cX9_init 109 = .ok (.invokespecial 43, 3) := by decide +kernel
theorem dX9_init_112 : decode cX9_init 112 = .ok (.putfield 44, 3) := by decide +kernel
theorem dX9_init_115 : decode cX9_init 115 = .ok (.aload_n 0, 1) := by decide +kernel
theorem dX9_init_116 : decode cX9_init 116 = .ok (.new 48, 3) := by decide +kernel
theorem dX9_init_119 : decode cX9_init 119 = .ok (.dup, 1) := by decide +kernel
theorem dX9_init_120 : decode cX9_init 120 = .ok (.invokespecial 50, 3) := by decide +kernel
theorem dX9_init_123 : decode cX9_init 123 = .ok (.putfield 51, 3) := by decide +kernel
theorem dX9_init_126 : decode cX9_init 126 = .ok (.aload_n 0, 1) := by decide +kernel
theorem dX9_init_127 : decode cX9_init 127 = .ok (.new 55, 3) := by decide +kernel
theorem dX9_init_130 : decode cX9_init 130 = .ok (.dup, 1) := by decide +kernel
theorem dX9_init_131 : decode cX9_init 131 = .ok (.invokespecial 57, 3) := by decide +kernel
theorem dX9_init_134 : decode cX9_init 134 = .ok (.putfield 58, 3) := by decide +kernel
theorem dX9_init_137 : decode cX9_init 137 = .ok (.aload_n 0, 1) := by decide +kernel
theorem dX9_init_138 : decode cX9_init 138 = .ok (.new 62, 3) := by decide +kernel
theorem dX9_init_141 : decode cX9_init 141 = .ok (.dup, 1) := by decide +kernel
theorem dX9_init_142 : decode cX9_init 142 = .ok (.invokespecial 64, 3) := by decide +kernel
theorem dX9_init_145 : decode cX9_init 145 = .ok (.putfield 65, 3) := by decide +kernel
theorem dX9_init_148 : decode cX9_init 148 = .ok (.iconst 0, 1) := by decide +kernel
theorem dX9_init_149 : decode cX9_init 149 = .ok (.istore_n 1, 1) := by decide +kernel
theorem dX9_init_150 : decode cX9_init 150 = .ok (.iload_n 1, 1) := by decide +kernel
theorem dX9_init_151 : decode cX9_init 151 = .ok (.iconst 4, 1) := by decide +kernel
theorem dX9_init_152 : decode cX9_init 152 = .ok (.if_icmp .ge 22, 3) := by decide +kernel
theorem dX9_init_155 : decode cX9_init 155 = .ok (.aload_n 0, 1) := by decide +kernel
theorem dX9_init_156 : decode cX9_init 156 = .ok (.getfield 27, 3) := by decide +kernel
theorem dX9_init_159 : decode cX9_init 159 = .ok (.iload_n 1, 1) := by decide +kernel
theorem dX9_init_160 : decode cX9_init 160 = .ok (.new 25, 3) := by decide +kernel
theorem dX9_init_163 : decode cX9_init 163 = .ok (.dup, 1) := by decide +kernel
theorem dX9_init_164 : decode cX9_init 164 = .ok (.invokespecial 69, 3) := by decide +kernel
theorem dX9_init_167 : decode cX9_init 167 = .ok (.aastore, 1) := by decide +kernel
theorem dX9_init_168 : decode cX9_init 168 = .ok (.iinc 1 1, 3) := by decide +kernel
theorem dX9_init_171 : decode cX9_init 171 = .ok (.goto (-21), 3) := by decide +kernel
theorem dX9_init_174 : decode cX9_init 174 = .ok (.return_, 1) := by decide +kernel
theorem dX9_street_0 : decode cX9_street 0 = .ok (.aload_n 0, 1) := by decide +kernel
theorem dX9_street_1 : decode cX9_street 1 = .ok (.iload_n 1, 1) := by decide +kernel
theorem dX9_street_2 : decode cX9_street 2 = .ok (.invokevirtual 70, 3) := by decide +kernel
theorem dX9_street_5 : decode cX9_street 5 = .ok (.ifCond .ne 9, 3) := by decide +kernel
theorem dX9_street_8 : decode cX9_street 8 = .ok (.aload_n 0, 1) := by decide +kernel
theorem dX9_street_9 : decode cX9_street 9 = .ok (.iconst (-1), 1) := by decide +kernel
theorem dX9_street_10 : decode cX9_street 10 = .ok (.invokevirtual 74, 3) := by decide +kernel
theorem dX9_street_13 : decode cX9_street 13 = .ok (.ireturn, 1) := by decide +kernel
theorem dX9_street_14 : decode cX9_street 14 = .ok (.iload_n 2, 1) := by decide +kernel
theorem dX9_street_15 : decode cX9_street 15 = .ok (.iconst 1, 1) := by decide +kernel
theorem dX9_street_16 : decode cX9_street 16 = .ok (.if_icmp .ge 10, 3) := by decide +kernel
theorem dX9_street_19 : decode cX9_street 19 = .ok (.aload_n 0, 1) := by decide +kernel
theorem dX9_street_20 : decode cX9_street 20 = .ok (.bipush (-4), 2) := by decide +kernel
theorem dX9_street_22 : decode cX9_street 22 = .ok (.invokevirtual 74, 3) := by decide +kernel
theorem dX9_street_25 : decode cX9_street 25 = .ok (.ireturn, 1) := by decide +kernel
theorem dX9_street_26 : decode cX9_street 26 = .ok (.iload_n 2, 1) := by decide +kernel
theorem dX9_street_27 : decode cX9_street 27 = .ok (.bipush 50, 2) := by decide +kernel
theorem dX9_street_29 : decode cX9_street 29 = .ok (.if_icmp .gt 15, 3) := by decide +kernel
theorem dX9_street_32 : decode cX9_street 32 = .ok (.aload_n 0, 1) := by decide +kernel
theorem dX9_street_33 : decode cX9_street 33 = .ok (.getfield 10, 3) := by decide +kernel
theorem dX9_street_36 : decode cX9_street 36 = .ok (.invokevirtual 78, 3) := by decide +kernel
theorem dX9_street_39 : decode cX9_street 39 = .ok (.bipush 10, 2) := by decide +kernel
theorem dX9_street_41 : decode cX9_street 41 = .ok (.if_icmp .lt 10, 3) := by decide +kernel
theorem dX9_street_44 : decode cX9_street 44 = .ok (.aload_n 0, 1) := by decide +kernel
theorem dX9_street_45 : decode cX9_street 45 = .ok (.bipush (-6), 2) := by decide +kernel
theorem dX9_street_47 : decode cX9_street 47 = .ok (.invokevirtual 74, 3) := by decide +kernel
theorem dX9_street_50 : decode cX9_street 50 = .ok (.ireturn, 1) := by decide +kernel
theorem dX9_street_51 : decode cX9_street 51 = .ok (.aload_n 0, 1) := by decide +kernel
theorem dX9_street_52 : decode cX9_street 52 = .ok (.getfield 10, 3) := by decide +kernel
theorem dX9_street_55 : decode cX9_street 55 = .ok (.new 82, 3) := by decide +kernel
theorem dX9_street_58 : decode cX9_street 58 = .ok (.dup, 1) := by decide +kernel
theorem dX9_street_59 : decode cX9_street 59 = .ok (.iload_n 1, 1) := by decide +kernel
theorem dX9_street_60 : decode cX9_street 60 = .ok (.iload_n 2, 1) := by decide +kernel
theorem dX9_street_61 : decode cX9_street 61 = .ok (.aload_n 0, 1) := by decide +kernel
theorem dX9_street_62 : decode cX9_street 62 = .ok (.invokevirtual 84, 3) := by decide +kernel
theorem dX9_street_65 : decode cX9_street 65 = .ok (.invokespecial 87, 3) := by decide +kernel
theorem dX9_street_68 : decode cX9_street 68 = .ok (.invokevirtual 90, 3) := by decide +kernel
theorem dX9_street_71 : decode cX9_street 71 = .ok (.pop, 1) := by decide +kernel
theorem dX9_street_72 : decode cX9_street 72 = .ok (.aload_n 0, 1) := by decide +kernel
theorem dX9_street_73 : decode cX9_street 73 = .ok (.getfield 10, 3) := by decide +kernel
theorem dX9_street_76 : decode cX9_street 76 = .ok (.invokevirtual 78, 3) := by decide +kernel
theorem dX9_street_79 : decode cX9_street 79 = .ok (.iconst 1, 1) := by decide +kernel
theorem dX9_street_80 : decode cX9_street 80 = .ok (.isub, 1) := by decide +kernel
theorem dX9_street_81 : decode cX9_street 81 = .ok (.ireturn, 1) := by decide +kernel
theorem dX9_set_0 : decode cX9_set 0 = .ok (.iload_n 1, 1) := by decide +kernel
theorem dX9_set_1 : decode cX9_set 1 = .ok (.ifCond .lt 8, 3) := by decide +kernel
theorem dX9_set_4 : decode cX9_set 4 = .ok (.iload_n 1, 1) := by decide +kernel
theorem dX9_set_5 : decode cX9_set 5 = .ok (.iconst 2, 1) := by decide +kernel
theorem dX9_set_6 : decode cX9_set 6 = .ok (.if_icmp .le 10, 3) := by decide +kernel
theorem dX9_set_9 : decode cX9_set 9 = .ok (.aload_n 0, 1) := by decide +kernel
theorem dX9_set_10 : decode cX9_set 10 = .ok (.bipush (-2), 2) := by decide +kernel
theorem dX9_set_12 : decode cX9_set 12 = .ok (.invokevirtual 74, 3) := by decide +kernel
theorem dX9_set_15 : decode cX9_set 15 = .ok (.ireturn, 1) := by decide +kernel
theorem dX9_set_16 : decode cX9_set 16 = .ok (.iload_n 2, 1) := by decide +kernel
theorem dX9_set_17 : decode cX9_set 17 = .ok (.getstatic 94, 3) := by decide +kernel
theorem dX9_set_20 : decode cX9_set 20 = .ok (.iload_n 1, 1) := by decide +kernel
theorem dX9_set_21 : decode cX9_set 21 = .ok (.iaload, 1) := by decide +kernel
theorem dX9_set_22 : decode cX9_set 22 = .ok (.if_icmp .ge 10, 3) := by decide +kernel
theorem dX9_set_25 : decode cX9_set 25 = .ok (.aload_n 0, 1) := by decide +kernel
theorem dX9_set_26 : decode cX9_set 26 = .ok (.bipush (-4), 2) := by decide +kernel
theorem dX9_set_28 : decode cX9_set 28 = .ok (.invokevirtual 74, 3) := by decide +kernel
theorem dX9_set_31 : decode cX9_set 31 = .ok (.ireturn, 1) := by decide +kernel
theorem dX9_set_32 : decode cX9_set 32 = .ok (.iload_n 2, 1) := by decide +kernel
theorem dX9_set_33 : decode cX9_set 33 = .ok (.getstatic 97, 3) := by decide +kernel
theorem dX9_set_36 : decode cX9_set 36 = .ok (.iload_n 1, 1) := by decide +kernel
theorem dX9_set_37 : decode cX9_set 37 = .ok (.iaload, 1) := by decide +kernel
theorem dX9_set_38 : decode cX9_set 38 = .ok (.if_icmp .le 10, 3) := by decide +kernel
theorem dX9_set_41 : decode cX9_set 41 = .ok (.aload_n 0, 1) := by decide +kernel
theorem dX9_set_42 : decode cX9_set 42 = .ok (.bipush (-6), 2) := by decide +kernel
theorem dX9_set_44 : decode cX9_set 44 = .ok (.invokevirtual 74, 3) := by decide +kernel
theorem dX9_set_47 : decode cX9_set 47 = .ok (.ireturn, 1) := by decide +kernel
theorem dX9_set_48 : decode cX9_set 48 = .ok (.aload_n 0, 1) := by decide +kernel
theorem dX9_set_49 : decode cX9_set 49 = .ok (.getfield 35, 3) := by decide +kernel
theorem dX9_set_52 : decode cX9_set 52 = .ok (.iload_n 1, 1) := by decide +kernel
theorem dX9_set_53 : decode cX9_set 53 = .ok (.iaload, 1) := by decide +kernel
theorem dX9_set_54 : decode cX9_set 54 = .ok (.istore_n 3, 1) := by decide +kernel
theorem dX9_set_55 : decode cX9_set 55 = .ok (.aload_n 0, 1) := by decide +kernel
theorem dX9_set_56 : decode cX9_set 56 = .ok (.getfield 35, 3) := by decide +kernel
theorem dX9_set_59 : decode cX9_set 59 = .ok (.iload_n 1, 1) := by decide +kernel
theorem dX9_set_60 : decode cX9_set 60 = .ok (.iload_n 2, 1) := by decide +kernel
theorem dX9_set_61 : decode cX9_set 61 = .ok (.iastore, 1) := by decide +kernel
theorem dX9_set_62 : decode cX9_set 62 = .ok (.iload_n 3, 1) := by decide +kernel
theorem dX9_set_63 : decode cX9_set 63 = .ok (.ireturn, 1) := by decide +kernel
theorem dX9_coal_0 : decode cX9_coal 0 = .ok (.iload_n 1, 1) := by decide +kernel
theorem dX9_coal_1 : decode cX9_coal 1 = .ok (.ifCond .ge 10, 3) := by decide +kernel
theorem dX9_coal_4 : decode cX9_coal 4 = .ok (.aload_n 0, 1) := by decide +kernel
theorem dX9_coal_5 : decode cX9_coal 5 = .ok (.bipush (-4), 2) := by decide +kernel
theorem dX9_coal_7 : decode cX9_coal 7 = .ok (.invokevirtual 74, 3) := by decide +kernel
theorem dX9_coal_10 : decode cX9_coal 10 = .ok (.ireturn, 1) := by decide +kernel
theorem dX9_coal_11 : decode cX9_coal 11 = .ok (.iload_n 1, 1) := by decide +kernel
theorem dX9_coal_12 : decode cX9_coal 12 = .ok (.ldc 100, 2) := by decide +kernel
theorem dX9_coal_14 : decode cX9_coal 14 = .ok (.aload_n 0, 1) := by decide +kernel
theorem dX9_coal_15 : decode cX9_coal 15 = .ok (.getfield 101, 3) := by decide +kernel
theorem dX9_coal_18 : decode cX9_coal 18 = .ok (.isub, 1) := by decide +kernel
theorem dX9_coal_19 : decode cX9_coal 19 = .ok (.if_icmp .le 10, 3) := by decide +kernel
theorem dX9_coal_22 : decode cX9_coal 22 = .ok (.aload_n 0, 1) := by decide +kernel
theorem dX9_coal_23 : decode cX9_coal 23 = .ok (.bipush (-6), 2) := by decide +kernel
theorem dX9_coal_25 : decode cX9_coal 25 = .ok (.invokevirtual 74, 3) := by decide +kernel
theorem dX9_coal_28 : decode cX9_coal 28 = .ok (.ireturn, 1) := by decide +kernel
theorem dX9_coal_29 : decode cX9_coal 29 = .ok (.aload_n 0, 1) := by decide +kernel
theorem dX9_coal_30 : decode cX9_coal 30 = .ok (.dup, 1) := by decide +kernel
theorem dX9_coal_31 : decode cX9_coal 31 = .ok (.getfield 101, 3) := by decide +kernel
theorem dX9_coal_34 : decode cX9_coal 34 = .ok (.iload_n 1, 1) := by decide +kernel
theorem dX9_coal_35 : decode cX9_coal 35 = .ok (.iadd, 1) := by decide +kernel
theorem dX9_coal_36 : decode cX9_coal 36 = .ok (.putfield 101, 3) := by decide +kernel
theorem dX9_coal_39 : decode cX9_coal 39 = .ok (.aload_n 0, 1) := by decide +kernel
theorem dX9_coal_40 : decode cX9_coal 40 = .ok (.getfield 101, 3) := by decide +kernel
theorem dX9_coal_43 : decode cX9_coal 43 = .ok (.ireturn, 1) := by decide +kernel
theorem dX9_house_0 : decode cX9_house 0 = .ok (.aload_n 0, 1) := by decide +kernel
theorem dX9_house_1 : decode cX9_house 1 = .ok (.iload_n 1, 1) := by decide +kernel
theorem dX9_house_2 : decode cX9_house 2 = .ok (.invokevirtual 105, 3) := by decide +kernel
theorem dX9_house_5 : decode cX9_house 5 = .ok (.astore 6, 2) := by decide +kernel
theorem dX9_house_7 : decode cX9_house 7 = .ok (.aload 6, 2) := by decide +kernel
theorem dX9_house_9 : decode cX9_house 9 = .ok (.ifnonnull 9, 3) := by decide +kernel
theorem dX9_house_12 : decode cX9_house 12 = .ok (.aload_n 0, 1) := by decide +kernel
theorem dX9_house_13 : decode cX9_house 13 = .ok (.iconst (-1), 1) := by decide +kernel
theorem dX9_house_14 : decode cX9_house 14 = .ok (.invokevirtual 74, 3) := by decide +kernel
theorem dX9_house_17 : decode cX9_house 17 = .ok (.ireturn, 1) := by decide +kernel
theorem dX9_house_18 : decode cX9_house 18 = .ok (.iload_n 2, 1) := by decide +kernel
theorem dX9_house_19 : decode cX9_house 19 = .ok (.bipush 10, 2) := by decide +kernel
theorem dX9_house_21 : decode cX9_house 21 = .ok (.if_icmp .lt 12, 3) := by decide +kernel
theorem dX9_house_24 : decode cX9_house 24 = .ok (.iload_n 3, 1) := by decide +kernel
theorem dX9_house_25 : decode cX9_house 25 = .ok (.ifCond .lt 8, 3) := by decide +kernel
theorem dX9_house_28 : decode cX9_house 28 = .ok (.iload 4, 2) := by decide +kernel
theorem dX9_house_30 : decode cX9_house 30 = .ok (.ifCond .ge 10, 3) := by decide +kernel
theorem dX9_house_33 : decode cX9_house 33 = .ok (.aload_n 0, 1) := by decide +kernel
theorem dX9_house_34 : decode cX9_house 34 = .ok (.bipush (-4), 2) := by decide +kernel
theorem dX9_house_36 : decode cX9_house 36 = .ok (.invokevirtual 74, 3) := by decide +kernel
theorem dX9_house_39 : decode cX9_house 39 = .ok (.ireturn, 1) := by decide +kernel
theorem dX9_house_40 : decode cX9_house 40 = .ok (.iload_n 2, 1) := by decide +kernel
theorem dX9_house_41 : decode cX9_house 41 = .ok (.sipush 500, 3) := by decide +kernel
theorem dX9_house_44 : decode cX9_house 44 = .ok (.if_icmp .gt 16, 3) := by decide +kernel
theorem dX9_house_47 : decode cX9_house 47 = .ok (.iload_n 3, 1) := by decide +kernel
theorem dX9_house_48 : decode cX9_house 48 = .ok (.bipush 9, 2) := by decide +kernel
theorem dX9_house_50 : decode cX9_house 50 = .ok (.if_icmp .gt 10, 3) := by decide +kernel
theorem dX9_house_53 : decode cX9_house 53 = .ok (.iload 4, 2) := by decide +kernel
theorem dX9_house_55 : decode cX9_house 55 = .ok (.bipush 20, 2) := by decide +kernel
theorem dX9_house_57 : decode cX9_house 57 = .ok (.if_icmp .le 10, 3) := by decide +kernel
theorem dX9_house_60 : decode cX9_house 60 = .ok (.aload_n 0, 1) := by decide +kernel
theorem dX9_house_61 : decode cX9_house 61 = .ok (.bipush (-6), 2) := by decide +kernel
theorem dX9_house_63 : decode cX9_house 63 = .ok (.invokevirtual 74, 3) := by decide +kernel
theorem dX9_house_66 : decode cX9_house 66 = .ok (.ireturn, 1) := by decide +kernel
theorem dX9_house_67 : decode cX9_house 67 = .ok (.aload_n 0, 1) := by decide +kernel
theorem dX9_house_68 : decode cX9_house 68 = .ok (.getfield 16, 3) := by decide +kernel
theorem dX9_house_71 : decode cX9_house 71 = .ok (.invokevirtual 78, 3) := by decide +kernel
theorem dX9_house_74 : decode cX9_house 74 = .ok (.bipush 24, 2) := by decide +kernel
theorem dX9_house_76 : decode cX9_house 76 = .ok (.if_icmp .lt 10, 3) := by decide +kernel
theorem dX9_house_79 : decode cX9_house 79 = .ok (.aload_n 0, 1) := by decide +kernel
theorem dX9_house_80 : decode cX9_house 80 = .ok (.bipush (-6), 2) := by decide +kernel
theorem dX9_house_82 : decode cX9_house 82 = .ok (.invokevirtual 74, 3) := by decide +kernel
theorem dX9_house_85 : decode cX9_house 85 = .ok (.ireturn, 1) := by decide +kernel
theorem dX9_house_86 : decode cX9_house 86 = .ok (.new 109, 3) := by decide +kernel
theorem dX9_house_89 : decode cX9_house 89 = .ok (.dup, 1) := by decide +kernel
theorem dX9_house_90 : decode cX9_house 90 = .ok (.iload_n 1, 1) := by decide +kernel
theorem dX9_house_91 : decode cX9_house 91 = .ok (.iload_n 2, 1) := by decide +kernel
theorem dX9_house_92 : decode cX9_house 92 = .ok (.iload_n 3, 1) := by decide +kernel
theorem dX9_house_93 : decode cX9_house 93 = .ok (.iload 4, 2) := by decide +kernel
theorem dX9_house_95 : decode cX9_house 95 = .ok (.iload 5, 2) := by decide +kernel
theorem dX9_house_97 : decode cX9_house 97 = .ok (.invokespecial 111, 3) := by decide +kernel
theorem dX9_house_100 : decode cX9_house 100 = .ok (.astore 7, 2) := by decide +kernel
theorem dX9_house_102 : decode cX9_house 102 = .ok (.aload_n 0, 1) := by decide +kernel
theorem dX9_house_103 : decode cX9_house 103 = .ok (.getfield 16, 3) := by decide +kernel
theorem dX9_house_106 : decode cX9_house 106 = .ok (.aload 7, 2) := by decide +kernel
theorem dX9_house_108 : decode cX9_house 108 = .ok (.invokevirtual 90, 3) := by decide +kernel
theorem dX9_house_111 : decode cX9_house 111 = .ok (.pop, 1) := by decide +kernel
theorem dX9_house_112 : decode cX9_house 112 = .ok (.aload 6, 2) := by decide +kernel
theorem dX9_house_114 : decode cX9_house 114 = .ok (.aload 7, 2) := by decide +kernel
theorem dX9_house_116 : decode cX9_house 116 = .ok (.invokevirtual 114, 3) := by decide +kernel
theorem dX9_house_119 : decode cX9_house 119 = .ok (.aload_n 0, 1) := by decide +kernel
theorem dX9_house_120 : decode cX9_house 120 = .ok (.getfield 16, 3) := by decide +kernel
theorem dX9_house_123 : decode cX9_house 123 = .ok (.invokevirtual 78, 3) := by decide +kernel
theorem dX9_house_126 : decode cX9_house 126 = .ok (.iconst 1, 1) := by decide +kernel
theorem dX9_house_127 : decode cX9_house 127 = .ok (.isub, 1) := by decide +kernel
theorem dX9_house_128 : decode cX9_house 128 = .ok (.ireturn, 1) := by decide +kernel
theorem dX9_row_0 : decode cX9_row 0 = .ok (.aload_n 0, 1) := by decide +kernel
theorem dX9_row_1 : decode cX9_row 1 = .ok (.iload_n 1, 1) := by decide +kernel
theorem dX9_row_2 : decode cX9_row 2 = .ok (.invokevirtual 118, 3) := by decide +kernel
theorem dX9_row_5 : decode cX9_row 5 = .ok (.astore_n 3, 1) := by decide +kernel
theorem dX9_row_6 : decode cX9_row 6 = .ok (.aload_n 3, 1) := by decide +kernel
theorem dX9_row_7 : decode cX9_row 7 = .ok (.ifnonnull 9, 3) := by decide +kernel
theorem dX9_row_10 : decode cX9_row 10 = .ok (.aload_n 0, 1) := by decide +kernel
theorem dX9_row_11 : decode cX9_row 11 = .ok (.iconst (-1), 1) := by decide +kernel
theorem dX9_row_12 : decode cX9_row 12 = .ok (.invokevirtual 74, 3) := by decide +kernel
theorem dX9_row_15 : decode cX9_row 15 = .ok (.ireturn, 1) := by decide +kernel
theorem dX9_row_16 : decode cX9_row 16 = .ok (.iload_n 2, 1) := by decide +kernel
theorem dX9_row_17 : decode cX9_row 17 = .ok (.ifCond .ge 10, 3) := by decide +kernel
theorem dX9_row_20 : decode cX9_row 20 = .ok (.aload_n 0, 1) := by decide +kernel
theorem dX9_row_21 : decode cX9_row 21 = .ok (.bipush (-4), 2) := by decide +kernel
theorem dX9_row_23 : decode cX9_row 23 = .ok (.invokevirtual 74, 3) := by decide +kernel
theorem dX9_row_26 : decode cX9_row 26 = .ok (.ireturn, 1) := by decide +kernel
theorem dX9_row_27 : decode cX9_row 27 = .ok (.iload_n 2, 1) := by decide +kernel
theorem dX9_row_28 : decode cX9_row 28 = .ok (.bipush 24, 2) := by decide +kernel
theorem dX9_row_30 : decode cX9_row 30 = .ok (.if_icmp .le 10, 3) := by decide +kernel
theorem dX9_row_33 : decode cX9_row 33 = .ok (.aload_n 0, 1) := by decide +kernel
theorem dX9_row_34 : decode cX9_row 34 = .ok (.bipush (-6), 2) := by decide +kernel
theorem dX9_row_36 : decode cX9_row 36 = .ok (.invokevirtual 74, 3) := by decide +kernel
theorem dX9_row_39 : decode cX9_row 39 = .ok (.ireturn, 1) := by decide +kernel
theorem dX9_row_40 : decode cX9_row 40 = .ok (.aload_n 3, 1) := by decide +kernel
theorem dX9_row_41 : decode cX9_row 41 = .ok (.iload_n 2, 1) := by decide +kernel
theorem dX9_row_42 : decode cX9_row 42 = .ok (.invokevirtual 122, 3) := by decide +kernel
theorem dX9_row_45 : decode cX9_row 45 = .ok (.iload_n 2, 1) := by decide +kernel
theorem dX9_row_46 : decode cX9_row 46 = .ok (.ireturn, 1) := by decide +kernel
theorem dX9_lose_0 : decode cX9_lose 0 = .ok (.aload_n 0, 1) := by decide +kernel
theorem dX9_lose_1 : decode cX9_lose 1 = .ok (.iload_n 1, 1) := by decide +kernel
theorem dX9_lose_2 : decode cX9_lose 2 = .ok (.invokevirtual 118, 3) := by decide +kernel
theorem dX9_lose_5 : decode cX9_lose 5 = .ok (.astore_n 2, 1) := by decide +kernel
theorem dX9_lose_6 : decode cX9_lose 6 = .ok (.aload_n 2, 1) := by decide +kernel
theorem dX9_lose_7 : decode cX9_lose 7 = .ok (.ifnonnull 9, 3) := by decide +kernel
theorem dX9_lose_10 : decode cX9_lose 10 = .ok (.aload_n 0, 1) := by decide +kernel
theorem dX9_lose_11 : decode cX9_lose 11 = .ok (.iconst (-1), 1) := by decide +kernel
theorem dX9_lose_12 : decode cX9_lose 12 = .ok (.invokevirtual 74, 3) := by decide +kernel
theorem dX9_lose_15 : decode cX9_lose 15 = .ok (.ireturn, 1) := by decide +kernel
theorem dX9_lose_16 : decode cX9_lose 16 = .ok (.aload_n 2, 1) := by decide +kernel
theorem dX9_lose_17 : decode cX9_lose 17 = .ok (.invokevirtual 126, 3) := by decide +kernel
theorem dX9_lose_20 : decode cX9_lose 20 = .ok (.ifCond .eq 5, 3) := by decide +kernel
theorem dX9_lose_23 : decode cX9_lose 23 = .ok (.iconst 0, 1) := by decide +kernel
theorem dX9_lose_24 : decode cX9_lose 24 = .ok (.ireturn, 1) := by decide +kernel
theorem dX9_lose_25 : decode cX9_lose 25 = .ok (.aload_n 2, 1) := by decide +kernel
theorem dX9_lose_26 : decode cX9_lose 26 = .ok (.invokevirtual 130, 3) := by decide +kernel
theorem dX9_lose_29 : decode cX9_lose 29 = .ok (.iconst 1, 1) := by decide +kernel
theorem dX9_lose_30 : decode cX9_lose 30 = .ok (.ireturn, 1) := by decide +kernel
theorem dX9_put_0 : decode cX9_put 0 = .ok (.aload_n 0, 1) := by decide +kernel
theorem dX9_put_1 : decode cX9_put 1 = .ok (.iload_n 1, 1) := by decide +kernel
theorem dX9_put_2 : decode cX9_put 2 = .ok (.invokevirtual 118, 3) := by decide +kernel
theorem dX9_put_5 : decode cX9_put 5 = .ok (.astore 4, 2) := by decide +kernel
theorem dX9_put_7 : decode cX9_put 7 = .ok (.aload 4, 2) := by decide +kernel
theorem dX9_put_9 : decode cX9_put 9 = .ok (.ifnonnull 9, 3) := by decide +kernel
theorem dX9_put_12 : decode cX9_put 12 = .ok (.aload_n 0, 1) := by decide +kernel
theorem dX9_put_13 : decode cX9_put 13 = .ok (.iconst (-1), 1) := by decide +kernel
theorem dX9_put_14 : decode cX9_put 14 = .ok (.invokevirtual 74, 3) := by decide +kernel
theorem dX9_put_17 : decode cX9_put 17 = .ok (.ireturn, 1) := by decide +kernel
theorem dX9_put_18 : decode cX9_put 18 = .ok (.aload 4, 2) := by decide +kernel
theorem dX9_put_20 : decode cX9_put 20 = .ok (.invokevirtual 126, 3) := by decide +kernel
theorem dX9_put_23 : decode cX9_put 23 = .ok (.ifCond .eq 10, 3) := by decide +kernel
theorem dX9_put_26 : decode cX9_put 26 = .ok (.aload_n 0, 1) := by decide +kernel
theorem dX9_put_27 : decode cX9_put 27 = .ok (.bipush (-5), 2) := by decide +kernel
theorem dX9_put_29 : decode cX9_put 29 = .ok (.invokevirtual 74, 3) := by decide +kernel
theorem dX9_put_32 : decode cX9_put 32 = .ok (.ireturn, 1) := by decide +kernel
theorem dX9_put_33 : decode cX9_put 33 = .ok (.aload 4, 2) := by decide +kernel
theorem dX9_put_35 : decode cX9_put 35 = .ok (.iload_n 2, 1) := by decide +kernel
theorem dX9_put_36 : decode cX9_put 36 = .ok (.iconst 1, 1) := by decide +kernel
theorem dX9_put_37 : decode cX9_put 37 = .ok (.invokevirtual 133, 3) := by decide +kernel
theorem dX9_put_40 : decode cX9_put 40 = .ok (.ifCond .ne 10, 3) := by decide +kernel
theorem dX9_put_43 : decode cX9_put 43 = .ok (.aload_n 0, 1) := by decide +kernel
theorem dX9_put_44 : decode cX9_put 44 = .ok (.bipush (-7), 2) := by decide +kernel
theorem dX9_put_46 : decode cX9_put 46 = .ok (.invokevirtual 74, 3) := by decide +kernel
theorem dX9_put_49 : decode cX9_put 49 = .ok (.ireturn, 1) := by decide +kernel
theorem dX9_put_50 : decode cX9_put 50 = .ok (.iload_n 3, 1) := by decide +kernel
theorem dX9_put_51 : decode cX9_put 51 = .ok (.ifCond .ge 10, 3) := by decide +kernel
theorem dX9_put_54 : decode cX9_put 54 = .ok (.aload_n 0, 1) := by decide +kernel
theorem dX9_put_55 : decode cX9_put 55 = .ok (.bipush (-4), 2) := by decide +kernel
theorem dX9_put_57 : decode cX9_put 57 = .ok (.invokevirtual 74, 3) := by decide +kernel
theorem dX9_put_60 : decode cX9_put 60 = .ok (.ireturn, 1) := by decide +kernel
theorem dX9_put_61 : decode cX9_put 61 = .ok (.iload_n 3, 1) := by decide +kernel
theorem dX9_put_62 : decode cX9_put 62 = .ok (.bipush 20, 2) := by decide +kernel
theorem dX9_put_64 : decode cX9_put 64 = .ok (.if_icmp .le 10, 3) := by decide +kernel
theorem dX9_put_67 : decode cX9_put 67 = .ok (.aload_n 0, 1) := by decide +kernel
theorem dX9_put_68 : decode cX9_put 68 = .ok (.bipush (-6), 2) := by decide +kernel
theorem dX9_put_70 : decode cX9_put 70 = .ok (.invokevirtual 74, 3) := by decide +kernel
theorem dX9_put_73 : decode cX9_put 73 = .ok (.ireturn, 1) := by decide +kernel
theorem dX9_put_74 : decode cX9_put 74 = .ok (.aload 4, 2) := by decide +kernel
theorem dX9_put_76 : decode cX9_put 76 = .ok (.getfield 137, 3) := by decide +kernel
theorem dX9_put_79 : decode cX9_put 79 = .ok (.iload_n 2, 1) := by decide +kernel
theorem dX9_put_80 : decode cX9_put 80 = .ok (.iaload, 1) := by decide +kernel
theorem dX9_put_81 : decode cX9_put 81 = .ok (.istore 5, 2) := by decide +kernel
theorem dX9_put_83 : decode cX9_put 83 = .ok (.aload 4, 2) := by decide +kernel
theorem dX9_put_85 : decode cX9_put 85 = .ok (.getfield 137, 3) := by decide +kernel
theorem dX9_put_88 : decode cX9_put 88 = .ok (.iload_n 2, 1) := by decide +kernel
theorem dX9_put_89 : decode cX9_put 89 = .ok (.iload_n 3, 1) := by decide +kernel
theorem dX9_put_90 : decode cX9_put 90 = .ok (.iastore, 1) := by decide +kernel
theorem dX9_put_91 : decode cX9_put 91 = .ok (.iload 5, 2) := by decide +kernel
theorem dX9_put_93 : decode cX9_put 93 = .ok (.ireturn, 1) := by decide +kernel
theorem dX9_copy_0 : decode cX9_copy 0 = .ok (.aload_n 0, 1) := by decide +kernel
theorem dX9_copy_1 : decode cX9_copy 1 = .ok (.iload_n 1, 1) := by decide +kernel
theorem dX9_copy_2 : decode cX9_copy 2 = .ok (.invokevirtual 118, 3) := by decide +kernel
theorem dX9_copy_5 : decode cX9_copy 5 = .ok (.astore 6, 2) := by decide +kernel
theorem dX9_copy_7 : decode cX9_copy 7 = .ok (.aload_n 0, 1) := by decide +kernel
theorem dX9_copy_8 : decode cX9_copy 8 = .ok (.iload_n 3, 1) := by decide +kernel
theorem dX9_copy_9 : decode cX9_copy 9 = .ok (.invokevirtual 118, 3) := by decide +kernel
theorem dX9_copy_12 : decode cX9_copy 12 = .ok (.astore 7, 2) := by decide +kernel
theorem dX9_copy_14 : decode cX9_copy 14 = .ok (.aload 6, 2) := by decide +kernel
theorem dX9_copy_16 : decode cX9_copy 16 = .ok (.ifnull 8, 3) := by decide +kernel
theorem dX9_copy_19 : decode cX9_copy 19 = .ok (.aload 7, 2) := by decide +kernel
theorem dX9_copy_21 : decode cX9_copy 21 = .ok (.ifnonnull 9, 3) := by decide +kernel
theorem dX9_copy_24 : decode cX9_copy 24 = .ok (.aload_n 0, 1) := by decide +kernel
theorem dX9_copy_25 : decode cX9_copy 25 = .ok (.iconst (-1), 1) := by decide +kernel
theorem dX9_copy_26 : decode cX9_copy 26 = .ok (.invokevirtual 74, 3) := by decide +kernel
theorem dX9_copy_29 : decode cX9_copy 29 = .ok (.ireturn, 1) := by decide +kernel
theorem dX9_copy_30 : decode cX9_copy 30 = .ok (.aload 6, 2) := by decide +kernel
theorem dX9_copy_32 : decode cX9_copy 32 = .ok (.invokevirtual 126, 3) := by decide +kernel
theorem dX9_copy_35 : decode cX9_copy 35 = .ok (.ifCond .ne 11, 3) := by decide +kernel
theorem dX9_copy_38 : decode cX9_copy 38 = .ok (.aload 7, 2) := by decide +kernel
theorem dX9_copy_40 : decode cX9_copy 40 = .ok (.invokevirtual 126, 3) := by decide +kernel
theorem dX9_copy_43 : decode cX9_copy 43 = .ok (.ifCond .eq 10, 3) := by decide +kernel
theorem dX9_copy_46 : decode cX9_copy 46 = .ok (.aload_n 0, 1) := by decide +kernel
theorem dX9_copy_47 : decode cX9_copy 47 = .ok (.bipush (-5), 2) := by decide +kernel
theorem dX9_copy_49 : decode cX9_copy 49 = .ok (.invokevirtual 74, 3) := by decide +kernel
theorem dX9_copy_52 : decode cX9_copy 52 = .ok (.ireturn, 1) := by decide +kernel
theorem dX9_copy_53 : decode cX9_copy 53 = .ok (.aload 6, 2) := by decide +kernel
theorem dX9_copy_55 : decode cX9_copy 55 = .ok (.iload_n 2, 1) := by decide +kernel
theorem dX9_copy_56 : decode cX9_copy 56 = .ok (.iload 5, 2) := by decide +kernel
theorem dX9_copy_58 : decode cX9_copy 58 = .ok (.invokevirtual 133, 3) := by decide +kernel
theorem dX9_copy_61 : decode cX9_copy 61 = .ok (.ifCond .eq 15, 3) := by decide +kernel
theorem dX9_copy_64 : decode cX9_copy 64 = .ok (.aload 7, 2) := by decide +kernel
theorem dX9_copy_66 : decode cX9_copy 66 = .ok (.iload 4, 2) := by decide +kernel
theorem dX9_copy_68 : decode cX9_copy 68 = .ok (.iload 5, 2) := by decide +kernel
theorem dX9_copy_70 : decode cX9_copy 70 = .ok (.invokevirtual 133, 3) := by decide +kernel
theorem dX9_copy_73 : decode cX9_copy 73 = .ok (.ifCond .ne 10, 3) := by decide +kernel
theorem dX9_copy_76 : decode cX9_copy 76 = .ok (.aload_n 0, 1) := by decide +kernel
theorem dX9_copy_77 : decode cX9_copy 77 = .ok (.bipush (-7), 2) := by decide +kernel
theorem dX9_copy_79 : decode cX9_copy 79 = .ok (.invokevirtual 74, 3) := by decide +kernel
theorem dX9_copy_82 : decode cX9_copy 82 = .ok (.ireturn, 1) := by decide +kernel
theorem dX9_copy_83 : decode cX9_copy 83 = .ok (.aload 6, 2) := by decide +kernel
theorem dX9_copy_85 : decode cX9_copy 85 = .ok (.getfield 137, 3) := by decide +kernel
theorem dX9_copy_88 : decode cX9_copy 88 = .ok (.iload_n 2, 1) := by decide +kernel
theorem dX9_copy_89 : decode cX9_copy 89 = .ok (.aload 7, 2) := by decide +kernel
theorem dX9_copy_91 : decode cX9_copy 91 = .ok (.getfield 137, 3) := by decide +kernel
theorem dX9_copy_94 : decode cX9_copy 94 = .ok (.iload 4, 2) := by decide +kernel
theorem dX9_copy_96 : decode cX9_copy 96 = .ok (.iload 5, 2) := by decide +kernel
theorem dX9_copy_98 : decode cX9_copy 98 = .ok (.invokestatic 140, 3) := by decide +kernel
theorem dX9_copy_101 : decode cX9_copy 101 = .ok (.iload 5, 2) := by decide +kernel
theorem dX9_copy_103 : decode cX9_copy 103 = .ok (.ireturn, 1) := by decide +kernel
theorem dX9_lead_0 : decode cX9_lead 0 = .ok (.aload_n 0, 1) := by decide +kernel
theorem dX9_lead_1 : decode cX9_lead 1 = .ok (.iload_n 1, 1) := by decide +kernel
theorem dX9_lead_2 : decode cX9_lead 2 = .ok (.invokevirtual 146, 3) := by decide +kernel
theorem dX9_lead_5 : decode cX9_lead 5 = .ok (.astore_n 3, 1) := by decide +kernel
theorem dX9_lead_6 : decode cX9_lead 6 = .ok (.aload_n 3, 1) := by decide +kernel
theorem dX9_lead_7 : decode cX9_lead 7 = .ok (.ifnull 16, 3) := by decide +kernel
theorem dX9_lead_10 : decode cX9_lead 10 = .ok (.iload_n 2, 1) := by decide +kernel
theorem dX9_lead_11 : decode cX9_lead 11 = .ok (.iconst (-1), 1) := by decide +kernel
theorem dX9_lead_12 : decode cX9_lead 12 = .ok (.if_icmp .eq 17, 3) := by decide +kernel
theorem dX9_lead_15 : decode cX9_lead 15 = .ok (.aload_n 0, 1) := by decide +kernel
theorem dX9_lead_16 : decode cX9_lead 16 = .ok (.iload_n 2, 1) := by decide +kernel
theorem dX9_lead_17 : decode cX9_lead 17 = .ok (.invokevirtual 118, 3) := by decide +kernel
theorem dX9_lead_20 : decode cX9_lead 20 = .ok (.ifnonnull 9, 3) := by decide +kernel
theorem dX9_lead_23 : decode cX9_lead 23 = .ok (.aload_n 0, 1) := by decide +kernel
theorem dX9_lead_24 : decode cX9_lead 24 = .ok (.iconst (-1), 1) := by decide +kernel
theorem dX9_lead_25 : decode cX9_lead 25 = .ok (.invokevirtual 150, 3) := by decide +kernel
theorem dX9_lead_28 : decode cX9_lead 28 = .ok (.ireturn, 1) := by decide +kernel
theorem dX9_lead_29 : decode cX9_lead 29 = .ok (.aload_n 3, 1) := by decide +kernel
theorem dX9_lead_30 : decode cX9_lead 30 = .ok (.getfield 153, 3) := by decide +kernel
theorem dX9_lead_33 : decode cX9_lead 33 = .ok (.istore 4, 2) := by decide +kernel
theorem dX9_lead_35 : decode cX9_lead 35 = .ok (.aload_n 3, 1) := by decide +kernel
theorem dX9_lead_36 : decode cX9_lead 36 = .ok (.iload_n 2, 1) := by decide +kernel
theorem dX9_lead_37 : decode cX9_lead 37 = .ok (.putfield 153, 3) := by decide +kernel
theorem dX9_lead_40 : decode cX9_lead 40 = .ok (.iload 4, 2) := by decide +kernel
theorem dX9_lead_42 : decode cX9_lead 42 = .ok (.ireturn, 1) := by decide +kernel
theorem dX9_end_0 : decode cX9_end 0 = .ok (.aload_n 0, 1) := by decide +kernel
theorem dX9_end_1 : decode cX9_end 1 = .ok (.iload_n 1, 1) := by decide +kernel
theorem dX9_end_2 : decode cX9_end 2 = .ok (.invokevirtual 105, 3) := by decide +kernel
theorem dX9_end_5 : decode cX9_end 5 = .ok (.astore_n 3, 1) := by decide +kernel
theorem dX9_end_6 : decode cX9_end 6 = .ok (.aload_n 3, 1) := by decide +kernel
theorem dX9_end_7 : decode cX9_end 7 = .ok (.ifnonnull 9, 3) := by decide +kernel
theorem dX9_end_10 : decode cX9_end 10 = .ok (.aload_n 0, 1) := by decide +kernel
theorem dX9_end_11 : decode cX9_end 11 = .ok (.iconst (-1), 1) := by decide +kernel
theorem dX9_end_12 : decode cX9_end 12 = .ok (.invokevirtual 74, 3) := by decide +kernel
theorem dX9_end_15 : decode cX9_end 15 = .ok (.ireturn, 1) := by decide +kernel
theorem dX9_end_16 : decode cX9_end 16 = .ok (.aload_n 3, 1) := by decide +kernel
theorem dX9_end_17 : decode cX9_end 17 = .ok (.getfield 156, 3) := by decide +kernel
theorem dX9_end_20 : decode cX9_end 20 = .ok (.ifCond .eq 10, 3) := by decide +kernel
theorem dX9_end_23 : decode cX9_end 23 = .ok (.aload_n 0, 1) := by decide +kernel
theorem dX9_end_24 : decode cX9_end 24 = .ok (.bipush (-3), 2) := by decide +kernel
theorem dX9_end_26 : decode cX9_end 26 = .ok (.invokevirtual 74, 3) := by decide +kernel
theorem dX9_end_29 : decode cX9_end 29 = .ok (.ireturn, 1) := by decide +kernel
theorem dX9_end_30 : decode cX9_end 30 = .ok (.iload_n 2, 1) := by decide +kernel
theorem dX9_end_31 : decode cX9_end 31 = .ok (.ifCond .eq 16, 3) := by decide +kernel
theorem dX9_end_34 : decode cX9_end 34 = .ok (.iload_n 2, 1) := by decide +kernel
theorem dX9_end_35 : decode cX9_end 35 = .ok (.bipush 50, 2) := by decide +kernel
theorem dX9_end_37 : decode cX9_end 37 = .ok (.if_icmp .ge 10, 3) := by decide +kernel
theorem dX9_end_40 : decode cX9_end 40 = .ok (.aload_n 0, 1) := by decide +kernel
theorem dX9_end_41 : decode cX9_end 41 = .ok (.bipush (-4), 2) := by decide +kernel
theorem dX9_end_43 : decode cX9_end 43 = .ok (.invokevirtual 74, 3) := by decide +kernel
theorem dX9_end_46 : decode cX9_end 46 = .ok (.ireturn, 1) := by decide +kernel
theorem dX9_end_47 : decode cX9_end 47 = .ok (.iload_n 2, 1) := by decide +kernel
theorem dX9_end_48 : decode cX9_end 48 = .ok (.sipush 2000, 3) := by decide +kernel
theorem dX9_end_51 : decode cX9_end 51 = .ok (.if_icmp .le 10, 3) := by decide +kernel
theorem dX9_end_54 : decode cX9_end 54 = .ok (.aload_n 0, 1) := by decide +kernel
theorem dX9_end_55 : decode cX9_end 55 = .ok (.bipush (-6), 2) := by decide +kernel
theorem dX9_end_57 : decode cX9_end 57 = .ok (.invokevirtual 74, 3) := by decide +kernel
theorem dX9_end_60 : decode cX9_end 60 = .ok (.ireturn, 1) := by decide +kernel
theorem dX9_end_61 : decode cX9_end 61 = .ok (.aload_n 3, 1) := by decide +kernel
theorem dX9_end_62 : decode cX9_end 62 = .ok (.iload_n 2, 1) := by decide +kernel
theorem dX9_end_63 : decode cX9_end 63 = .ok (.ifCond .ne 7, 3) := by decide +kernel
theorem dX9_end_66 : decode cX9_end 66 = .ok (.iconst 1, 1) := by decide +kernel
theorem dX9_end_67 : decode cX9_end 67 = .ok (.goto 4, 3) := by decide +kernel
theorem dX9_end_70 : decode cX9_end 70 = .ok (.iconst 2, 1) := by decide +kernel
theorem dX9_end_71 : decode cX9_end 71 = .ok (.iload_n 2, 1) := by decide +kernel
theorem dX9_end_72 : decode cX9_end 72 = .ok (.invokevirtual 159, 3) := by decide +kernel
theorem dX9_end_75 : decode cX9_end 75 = .ok (.iconst 1, 1) := by decide +kernel
theorem dX9_end_76 : decode cX9_end 76 = .ok (.ireturn, 1) := by decide +kernel
theorem dX9_clear_0 : decode cX9_clear 0 = .ok (.aload_n 0, 1) := by decide +kernel
theorem dX9_clear_1 : decode cX9_clear 1 = .ok (.iload_n 1, 1) := by decide +kernel
theorem dX9_clear_2 : decode cX9_clear 2 = .ok (.invokevirtual 105, 3) := by decide +kernel
theorem dX9_clear_5 : decode cX9_clear 5 = .ok (.astore_n 2, 1) := by decide +kernel
theorem dX9_clear_6 : decode cX9_clear 6 = .ok (.aload_n 2, 1) := by decide +kernel
theorem dX9_clear_7 : decode cX9_clear 7 = .ok (.ifnonnull 9, 3) := by decide +kernel
theorem dX9_clear_10 : decode cX9_clear 10 = .ok (.aload_n 0, 1) := by decide +kernel
theorem dX9_clear_11 : decode cX9_clear 11 = .ok (.iconst (-1), 1) := by decide +kernel
theorem dX9_clear_12 : decode cX9_clear 12 = .ok (.invokevirtual 74, 3) := by decide +kernel
theorem dX9_clear_15 : decode cX9_clear 15 = .ok (.ireturn, 1) := by decide +kernel
theorem dX9_clear_16 : decode cX9_clear 16 = .ok (.aload_n 2, 1) := by decide +kernel
theorem dX9_clear_17 : decode cX9_clear 17 = .ok (.getfield 156, 3) := by decide +kernel
theorem dX9_clear_20 : decode cX9_clear 20 = .ok (.ifCond .ne 10, 3) := by decide +kernel
theorem dX9_clear_23 : decode cX9_clear 23 = .ok (.aload_n 0, 1) := by decide +kernel
theorem dX9_clear_24 : decode cX9_clear 24 = .ok (.bipush (-5), 2) := by decide +kernel
theorem dX9_clear_26 : decode cX9_clear 26 = .ok (.invokevirtual 74, 3) := by decide +kernel
theorem dX9_clear_29 : decode cX9_clear 29 = .ok (.ireturn, 1) := by decide +kernel
theorem dX9_clear_30 : decode cX9_clear 30 = .ok (.aload_n 2, 1) := by decide +kernel
theorem dX9_clear_31 : decode cX9_clear 31 = .ok (.getfield 163, 3) := by decide +kernel
theorem dX9_clear_34 : decode cX9_clear 34 = .ok (.istore_n 3, 1) := by decide +kernel
theorem dX9_clear_35 : decode cX9_clear 35 = .ok (.aload_n 2, 1) := by decide +kernel
theorem dX9_clear_36 : decode cX9_clear 36 = .ok (.iconst 0, 1) := by decide +kernel
theorem dX9_clear_37 : decode cX9_clear 37 = .ok (.iconst 0, 1) := by decide +kernel
theorem dX9_clear_38 : decode cX9_clear 38 = .ok (.invokevirtual 159, 3) := by decide +kernel
theorem dX9_clear_41 : decode cX9_clear 41 = .ok (.iload_n 3, 1) := by decide +kernel
theorem dX9_clear_42 : decode cX9_clear 42 = .ok (.ireturn, 1) := by decide +kernel
theorem dX9_draw_0 : decode cX9_draw 0 = .ok (.aload_n 0, 1) := by decide +kernel
theorem dX9_draw_1 : decode cX9_draw 1 = .ok (.iload_n 1, 1) := by decide +kernel
theorem dX9_draw_2 : decode cX9_draw 2 = .ok (.invokevirtual 105, 3) := by decide +kernel
theorem dX9_draw_5 : decode cX9_draw 5 = .ok (.astore_n 3, 1) := by decide +kernel
theorem dX9_draw_6 : decode cX9_draw 6 = .ok (.aload_n 3, 1) := by decide +kernel
theorem dX9_draw_7 : decode cX9_draw 7 = .ok (.ifnonnull 9, 3) := by decide +kernel
theorem dX9_draw_10 : decode cX9_draw 10 = .ok (.aload_n 0, 1) := by decide +kernel
theorem dX9_draw_11 : decode cX9_draw 11 = .ok (.iconst (-1), 1) := by decide +kernel
theorem dX9_draw_12 : decode cX9_draw 12 = .ok (.invokevirtual 74, 3) := by decide +kernel
theorem dX9_draw_15 : decode cX9_draw 15 = .ok (.ireturn, 1) := by decide +kernel
theorem dX9_draw_16 : decode cX9_draw 16 = .ok (.aload_n 3, 1) := by decide +kernel
theorem dX9_draw_17 : decode cX9_draw 17 = .ok (.getfield 156, 3) := by decide +kernel
theorem dX9_draw_20 : decode cX9_draw 20 = .ok (.ifCond .ne 10, 3) := by decide +kernel
theorem dX9_draw_23 : decode cX9_draw 23 = .ok (.aload_n 0, 1) := by decide +kernel
theorem dX9_draw_24 : decode cX9_draw 24 = .ok (.bipush (-5), 2) := by decide +kernel
theorem dX9_draw_26 : decode cX9_draw 26 = .ok (.invokevirtual 74, 3) := by decide +kernel
theorem dX9_draw_29 : decode cX9_draw 29 = .ok (.ireturn, 1) := by decide +kernel
theorem dX9_draw_30 : decode cX9_draw 30 = .ok (.aload_n 3, 1) := by decide +kernel
theorem dX9_draw_31 : decode cX9_draw 31 = .ok (.getfield 156, 3) := by decide +kernel
theorem dX9_draw_34 : decode cX9_draw 34 = .ok (.iconst 2, 1) := by decide +kernel
theorem dX9_draw_35 : decode cX9_draw 35 = .ok (.if_icmp .ne 10, 3) := by decide +kernel
theorem dX9_draw_38 : decode cX9_draw 38 = .ok (.aload_n 0, 1) := by decide +kernel
theorem dX9_draw_39 : decode cX9_draw 39 = .ok (.bipush (-2), 2) := by decide +kernel
theorem dX9_draw_41 : decode cX9_draw 41 = .ok (.invokevirtual 74, 3) := by decide +kernel
theorem dX9_draw_44 : decode cX9_draw 44 = .ok (.ireturn, 1) := by decide +kernel
theorem dX9_draw_45 : decode cX9_draw 45 = .ok (.aload_n 3, 1) := by decide +kernel
theorem dX9_draw_46 : decode cX9_draw 46 = .ok (.getfield 166, 3) := by decide +kernel
theorem dX9_draw_49 : decode cX9_draw 49 = .ok (.iload_n 2, 1) := by decide +kernel
theorem dX9_draw_50 : decode cX9_draw 50 = .ok (.if_icmp .ne 5, 3) := by decide +kernel
theorem dX9_draw_53 : decode cX9_draw 53 = .ok (.iconst 0, 1) := by decide +kernel
theorem dX9_draw_54 : decode cX9_draw 54 = .ok (.ireturn, 1) := by decide +kernel
theorem dX9_draw_55 : decode cX9_draw 55 = .ok (.aload_n 3, 1) := by decide +kernel
theorem dX9_draw_56 : decode cX9_draw 56 = .ok (.iload_n 2, 1) := by decide +kernel
theorem dX9_draw_57 : decode cX9_draw 57 = .ok (.putfield 166, 3) := by decide +kernel
theorem dX9_draw_60 : decode cX9_draw 60 = .ok (.iconst 1, 1) := by decide +kernel
theorem dX9_draw_61 : decode cX9_draw 61 = .ok (.ireturn, 1) := by decide +kernel
theorem dX9_brew_0 : decode cX9_brew 0 = .ok (.aload_n 0, 1) := by decide +kernel
theorem dX9_brew_1 : decode cX9_brew 1 = .ok (.iload_n 1, 1) := by decide +kernel
theorem dX9_brew_2 : decode cX9_brew 2 = .ok (.invokevirtual 105, 3) := by decide +kernel
theorem dX9_brew_5 : decode cX9_brew 5 = .ok (.astore_n 3, 1) := by decide +kernel
theorem dX9_brew_6 : decode cX9_brew 6 = .ok (.aload_n 3, 1) := by decide +kernel
theorem dX9_brew_7 : decode cX9_brew 7 = .ok (.ifnonnull 9, 3) := by decide +kernel
theorem dX9_brew_10 : decode cX9_brew 10 = .ok (.aload_n 0, 1) := by decide +kernel
theorem dX9_brew_11 : decode cX9_brew 11 = .ok (.iconst (-1), 1) := by decide +kernel
theorem dX9_brew_12 : decode cX9_brew 12 = .ok (.invokevirtual 74, 3) := by decide +kernel
theorem dX9_brew_15 : decode cX9_brew 15 = .ok (.ireturn, 1) := by decide +kernel
theorem dX9_brew_16 : decode cX9_brew 16 = .ok (.aload_n 3, 1) := by decide +kernel
theorem dX9_brew_17 : decode cX9_brew 17 = .ok (.getfield 156, 3) := by decide +kernel
theorem dX9_brew_20 : decode cX9_brew 20 = .ok (.ifCond .ne 10, 3) := by decide +kernel
theorem dX9_brew_23 : decode cX9_brew 23 = .ok (.aload_n 0, 1) := by decide +kernel
theorem dX9_brew_24 : decode cX9_brew 24 = .ok (.bipush (-5), 2) := by decide +kernel
theorem dX9_brew_26 : decode cX9_brew 26 = .ok (.invokevirtual 74, 3) := by decide +kernel
theorem dX9_brew_29 : decode cX9_brew 29 = .ok (.ireturn, 1) := by decide +kernel
theorem dX9_brew_30 : decode cX9_brew 30 = .ok (.aload_n 3, 1) := by decide +kernel
theorem dX9_brew_31 : decode cX9_brew 31 = .ok (.getfield 156, 3) := by decide +kernel
theorem dX9_brew_34 : decode cX9_brew 34 = .ok (.iconst 1, 1) := by decide +kernel
theorem dX9_brew_35 : decode cX9_brew 35 = .ok (.if_icmp .ne 10, 3) := by decide +kernel
theorem dX9_brew_38 : decode cX9_brew 38 = .ok (.aload_n 0, 1) := by decide +kernel
theorem dX9_brew_39 : decode cX9_brew 39 = .ok (.bipush (-2), 2) := by decide +kernel
theorem dX9_brew_41 : decode cX9_brew 41 = .ok (.invokevirtual 74, 3) := by decide +kernel
theorem dX9_brew_44 : decode cX9_brew 44 = .ok (.ireturn, 1) := by decide +kernel
theorem dX9_brew_45 : decode cX9_brew 45 = .ok (.iload_n 2, 1) := by decide +kernel
theorem dX9_brew_46 : decode cX9_brew 46 = .ok (.ifCond .ge 10, 3) := by decide +kernel
theorem dX9_brew_49 : decode cX9_brew 49 = .ok (.aload_n 0, 1) := by decide +kernel
theorem dX9_brew_50 : decode cX9_brew 50 = .ok (.bipush (-4), 2) := by decide +kernel
theorem dX9_brew_52 : decode cX9_brew 52 = .ok (.invokevirtual 74, 3) := by decide +kernel
theorem dX9_brew_55 : decode cX9_brew 55 = .ok (.ireturn, 1) := by decide +kernel
theorem dX9_brew_56 : decode cX9_brew 56 = .ok (.iload_n 2, 1) := by decide +kernel
theorem dX9_brew_57 : decode cX9_brew 57 = .ok (.aload_n 3, 1) := by decide +kernel
theorem dX9_brew_58 : decode cX9_brew 58 = .ok (.getfield 163, 3) := by decide +kernel
theorem dX9_brew_61 : decode cX9_brew 61 = .ok (.if_icmp .le 10, 3) := by decide +kernel
theorem dX9_brew_64 : decode cX9_brew 64 = .ok (.aload_n 0, 1) := by decide +kernel
theorem dX9_brew_65 : decode cX9_brew 65 = .ok (.bipush (-6), 2) := by decide +kernel
theorem dX9_brew_67 : decode cX9_brew 67 = .ok (.invokevirtual 74, 3) := by decide +kernel
theorem dX9_brew_70 : decode cX9_brew 70 = .ok (.ireturn, 1) := by decide +kernel
theorem dX9_brew_71 : decode cX9_brew 71 = .ok (.aload_n 3, 1) := by decide +kernel
theorem dX9_brew_72 : decode cX9_brew 72 = .ok (.dup, 1) := by decide +kernel
theorem dX9_brew_73 : decode cX9_brew 73 = .ok (.getfield 163, 3) := by decide +kernel
theorem dX9_brew_76 : decode cX9_brew 76 = .ok (.iload_n 2, 1) := by decide +kernel
theorem dX9_brew_77 : decode cX9_brew 77 = .ok (.isub, 1) := by decide +kernel
theorem dX9_brew_78 : decode cX9_brew 78 = .ok (.putfield 163, 3) := by decide +kernel
theorem dX9_brew_81 : decode cX9_brew 81 = .ok (.aload_n 3, 1) := by decide +kernel
theorem dX9_brew_82 : decode cX9_brew 82 = .ok (.getfield 163, 3) := by decide +kernel
theorem dX9_brew_85 : decode cX9_brew 85 = .ok (.ireturn, 1) := by decide +kernel
theorem dX9_turn_0 : decode cX9_turn 0 = .ok (.aload_n 0, 1) := by decide +kernel
theorem dX9_turn_1 : decode cX9_turn 1 = .ok (.iload_n 1, 1) := by decide +kernel
theorem dX9_turn_2 : decode cX9_turn 2 = .ok (.invokevirtual 105, 3) := by decide +kernel
theorem dX9_turn_5 : decode cX9_turn 5 = .ok (.ifnull 10, 3) := by decide +kernel
theorem dX9_turn_8 : decode cX9_turn 8 = .ok (.iload_n 2, 1) := by decide +kernel
theorem dX9_turn_9 : decode cX9_turn 9 = .ok (.invokestatic 170, 3) := by decide +kernel
theorem dX9_turn_12 : decode cX9_turn 12 = .ok (.ifCond .ne 9, 3) := by decide +kernel
theorem dX9_turn_15 : decode cX9_turn 15 = .ok (.aload_n 0, 1) := by decide +kernel
theorem dX9_turn_16 : decode cX9_turn 16 = .ok (.iconst (-1), 1) := by decide +kernel
theorem dX9_turn_17 : decode cX9_turn 17 = .ok (.invokevirtual 74, 3) := by decide +kernel
theorem dX9_turn_20 : decode cX9_turn 20 = .ok (.ireturn, 1) := by decide +kernel
theorem dX9_turn_21 : decode cX9_turn 21 = .ok (.iload_n 3, 1) := by decide +kernel
theorem dX9_turn_22 : decode cX9_turn 22 = .ok (.ifCond .lt 14, 3) := by decide +kernel
theorem dX9_turn_25 : decode cX9_turn 25 = .ok (.iload 4, 2) := by decide +kernel
theorem dX9_turn_27 : decode cX9_turn 27 = .ok (.ifCond .lt 9, 3) := by decide +kernel
theorem dX9_turn_30 : decode cX9_turn 30 = .ok (.iload 5, 2) := by decide +kernel
theorem dX9_turn_32 : decode cX9_turn 32 = .ok (.iconst 1, 1) := by decide +kernel
theorem dX9_turn_33 : decode cX9_turn 33 = .ok (.if_icmp .ge 10, 3) := by decide +kernel
theorem dX9_turn_36 : decode cX9_turn 36 = .ok (.aload_n 0, 1) := by decide +kernel
theorem dX9_turn_37 : decode cX9_turn 37 = .ok (.bipush (-4), 2) := by decide +kernel
theorem dX9_turn_39 : decode cX9_turn 39 = .ok (.invokevirtual 74, 3) := by decide +kernel
theorem dX9_turn_42 : decode cX9_turn 42 = .ok (.ireturn, 1) := by decide +kernel
theorem dX9_turn_43 : decode cX9_turn 43 = .ok (.iload_n 3, 1) := by decide +kernel
theorem dX9_turn_44 : decode cX9_turn 44 = .ok (.bipush 7, 2) := by decide +kernel
theorem dX9_turn_46 : decode cX9_turn 46 = .ok (.if_icmp .ge 17, 3) := by decide +kernel
theorem dX9_turn_49 : decode cX9_turn 49 = .ok (.iload 4, 2) := by decide +kernel
theorem dX9_turn_51 : decode cX9_turn 51 = .ok (.bipush 24, 2) := by decide +kernel
theorem dX9_turn_53 : decode cX9_turn 53 = .ok (.if_icmp .ge 10, 3) := by decide +kernel
theorem dX9_turn_56 : decode cX9_turn 56 = .ok (.iload 5, 2) := by decide +kernel
theorem dX9_turn_58 : decode cX9_turn 58 = .ok (.bipush 6, 2) := by decide +kernel
theorem dX9_turn_60 : decode cX9_turn 60 = .ok (.if_icmp .le 10, 3) := by decide +kernel
theorem dX9_turn_63 : decode cX9_turn 63 = .ok (.aload_n 0, 1) := by decide +kernel
theorem dX9_turn_64 : decode cX9_turn 64 = .ok (.bipush (-6), 2) := by decide +kernel
theorem dX9_turn_66 : decode cX9_turn 66 = .ok (.invokevirtual 74, 3) := by decide +kernel
theorem dX9_turn_69 : decode cX9_turn 69 = .ok (.ireturn, 1) := by decide +kernel
theorem dX9_turn_70 : decode cX9_turn 70 = .ok (.aload_n 0, 1) := by decide +kernel
theorem dX9_turn_71 : decode cX9_turn 71 = .ok (.getfield 19, 3) := by decide +kernel
theorem dX9_turn_74 : decode cX9_turn 74 = .ok (.invokevirtual 78, 3) := by decide +kernel
theorem dX9_turn_77 : decode cX9_turn 77 = .ok (.bipush 30, 2) := by decide +kernel
theorem dX9_turn_79 : decode cX9_turn 79 = .ok (.if_icmp .lt 10, 3) := by decide +kernel
theorem dX9_turn_82 : decode cX9_turn 82 = .ok (.aload_n 0, 1) := by decide +kernel
theorem dX9_turn_83 : decode cX9_turn 83 = .ok (.bipush (-6), 2) := by decide +kernel
theorem dX9_turn_85 : decode cX9_turn 85 = .ok (.invokevirtual 74, 3) := by decide +kernel
theorem dX9_turn_88 : decode cX9_turn 88 = .ok (.ireturn, 1) := by decide +kernel
theorem dX9_turn_89 : decode cX9_turn 89 = .ok (.new 173, 3) := by decide +kernel
theorem dX9_turn_92 : decode cX9_turn 92 = .ok (.dup, 1) := by decide +kernel
theorem dX9_turn_93 : decode cX9_turn 93 = .ok (.iload_n 1, 1) := by decide +kernel
theorem dX9_turn_94 : decode cX9_turn 94 = .ok (.iload_n 2, 1) := by decide +kernel
theorem dX9_turn_95 : decode cX9_turn 95 = .ok (.iload_n 3, 1) := by decide +kernel
theorem dX9_turn_96 : decode cX9_turn 96 = .ok (.bipush 24, 2) := by decide +kernel
theorem dX9_turn_98 : decode cX9_turn 98 = .ok (.imul, 1) := by decide +kernel
theorem dX9_turn_99 : decode cX9_turn 99 = .ok (.iload 4, 2) := by decide +kernel
theorem dX9_turn_101 : decode cX9_turn 101 = .ok (.iadd, 1) := by decide +kernel
theorem dX9_turn_102 : decode cX9_turn 102 = .ok (.iload 5, 2) := by decide +kernel
theorem dX9_turn_104 : decode cX9_turn 104 = .ok (.invokespecial 175, 3) := by decide +kernel
theorem dX9_turn_107 : decode cX9_turn 107 = .ok (.astore 6, 2) := by decide +kernel
theorem dX9_turn_109 : decode cX9_turn 109 = .ok (.aload_n 0, 1) := by decide +kernel
theorem dX9_turn_110 : decode cX9_turn 110 = .ok (.getfield 19, 3) := by decide +kernel
theorem dX9_turn_113 : decode cX9_turn 113 = .ok (.aload 6, 2) := by decide +kernel
theorem dX9_turn_115 : decode cX9_turn 115 = .ok (.invokevirtual 90, 3) := by decide +kernel
theorem dX9_turn_118 : decode cX9_turn 118 = .ok (.pop, 1) := by decide +kernel
theorem dX9_turn_119 : decode cX9_turn 119 = .ok (.aload_n 0, 1) := by decide +kernel
theorem dX9_turn_120 : decode cX9_turn 120 = .ok (.getfield 44, 3) := by decide +kernel
theorem dX9_turn_123 : decode cX9_turn 123 = .ok (.aload 6, 2) := by decide +kernel
theorem dX9_turn_125 : decode cX9_turn 125 = .ok (.aload_n 0, 1) := by decide +kernel
theorem dX9_turn_126 : decode cX9_turn 126 = .ok (.getfield 10, 3) := by decide +kernel
theorem dX9_turn_129 : decode cX9_turn 129 = .ok (.invokevirtual 178, 3) := by decide +kernel
theorem dX9_turn_132 : decode cX9_turn 132 = .ok (.aload_n 0, 1) := by decide +kernel
theorem dX9_turn_133 : decode cX9_turn 133 = .ok (.getfield 19, 3) := by decide +kernel
theorem dX9_turn_136 : decode cX9_turn 136 = .ok (.invokevirtual 78, 3) := by decide +kernel
theorem dX9_turn_139 : decode cX9_turn 139 = .ok (.iconst 1, 1) := by decide +kernel
theorem dX9_turn_140 : decode cX9_turn 140 = .ok (.isub, 1) := by decide +kernel
theorem dX9_turn_141 : decode cX9_turn 141 = .ok (.ireturn, 1) := by decide +kernel
theorem dX9_let_0 : decode cX9_let 0 = .ok (.aload_n 0, 1) := by decide +kernel
theorem dX9_let_1 : decode cX9_let 1 = .ok (.iload_n 1, 1) := by decide +kernel
theorem dX9_let_2 : decode cX9_let 2 = .ok (.invokevirtual 105, 3) := by decide +kernel
theorem dX9_let_5 : decode cX9_let 5 = .ok (.ifnonnull 9, 3) := by decide +kernel
theorem dX9_let_8 : decode cX9_let 8 = .ok (.aload_n 0, 1) := by decide +kernel
theorem dX9_let_9 : decode cX9_let 9 = .ok (.iconst (-1), 1) := by decide +kernel
theorem dX9_let_10 : decode cX9_let 10 = .ok (.invokevirtual 74, 3) := by decide +kernel
theorem dX9_let_13 : decode cX9_let 13 = .ok (.ireturn, 1) := by decide +kernel
theorem dX9_let_14 : decode cX9_let 14 = .ok (.iload_n 2, 1) := by decide +kernel
theorem dX9_let_15 : decode cX9_let 15 = .ok (.ifCond .ge 10, 3) := by decide +kernel
theorem dX9_let_18 : decode cX9_let 18 = .ok (.aload_n 0, 1) := by decide +kernel
theorem dX9_let_19 : decode cX9_let 19 = .ok (.bipush (-4), 2) := by decide +kernel
theorem dX9_let_21 : decode cX9_let 21 = .ok (.invokevirtual 74, 3) := by decide +kernel
theorem dX9_let_24 : decode cX9_let 24 = .ok (.ireturn, 1) := by decide +kernel
theorem dX9_let_25 : decode cX9_let 25 = .ok (.iload_n 2, 1) := by decide +kernel
theorem dX9_let_26 : decode cX9_let 26 = .ok (.sipush 168, 3) := by decide +kernel
theorem dX9_let_29 : decode cX9_let 29 = .ok (.if_icmp .lt 10, 3) := by decide +kernel
theorem dX9_let_32 : decode cX9_let 32 = .ok (.aload_n 0, 1) := by decide +kernel
theorem dX9_let_33 : decode cX9_let 33 = .ok (.bipush (-6), 2) := by decide +kernel
theorem dX9_let_35 : decode cX9_let 35 = .ok (.invokevirtual 74, 3) := by decide +kernel
theorem dX9_let_38 : decode cX9_let 38 = .ok (.ireturn, 1) := by decide +kernel
theorem dX9_let_39 : decode cX9_let 39 = .ok (.iload_n 3, 1) := by decide +kernel
theorem dX9_let_40 : decode cX9_let 40 = .ok (.ifCond .lt 8, 3) := by decide +kernel
theorem dX9_let_43 : decode cX9_let 43 = .ok (.iload_n 3, 1) := by decide +kernel
theorem dX9_let_44 : decode cX9_let 44 = .ok (.iconst 1, 1) := by decide +kernel
theorem dX9_let_45 : decode cX9_let 45 = .ok (.if_icmp .le 10, 3) := by decide +kernel
theorem dX9_let_48 : decode cX9_let 48 = .ok (.aload_n 0, 1) := by decide +kernel
theorem dX9_let_49 : decode cX9_let 49 = .ok (.bipush (-2), 2) := by decide +kernel
theorem dX9_let_51 : decode cX9_let 51 = .ok (.invokevirtual 74, 3) := by decide +kernel
theorem dX9_let_54 : decode cX9_let 54 = .ok (.ireturn, 1) := by decide +kernel
theorem dX9_let_55 : decode cX9_let 55 = .ok (.iload_n 3, 1) := by decide +kernel
theorem dX9_let_56 : decode cX9_let 56 = .ok (.ifCond .ne 14, 3) := by decide +kernel
theorem dX9_let_59 : decode cX9_let 59 = .ok (.aload_n 0, 1) := by decide +kernel
theorem dX9_let_60 : decode cX9_let 60 = .ok (.getfield 44, 3) := by decide +kernel
theorem dX9_let_63 : decode cX9_let 63 = .ok (.iload_n 2, 1) := by decide +kernel
theorem dX9_let_64 : decode cX9_let 64 = .ok (.invokevirtual 181, 3) := by decide +kernel
theorem dX9_let_67 : decode cX9_let 67 = .ok (.goto 11, 3) := by decide +kernel
theorem dX9_let_70 : decode cX9_let 70 = .ok (.aload_n 0, 1) := by decide +kernel
theorem dX9_let_71 : decode cX9_let 71 = .ok (.getfield 44, 3) := by decide +kernel
theorem dX9_let_74 : decode cX9_let 74 = .ok (.iload_n 2, 1) := by decide +kernel
theorem dX9_let_75 : decode cX9_let 75 = .ok (.invokevirtual 184, 3) := by decide +kernel
theorem dX9_let_78 : decode cX9_let 78 = .ok (.istore 4, 2) := by decide +kernel
theorem dX9_let_80 : decode cX9_let 80 = .ok (.iload 4, 2) := by decide +kernel
theorem dX9_let_82 : decode cX9_let 82 = .ok (.iload_n 1, 1) := by decide +kernel
theorem dX9_let_83 : decode cX9_let 83 = .ok (.invokestatic 187, 3) := by decide +kernel
theorem dX9_let_86 : decode cX9_let 86 = .ok (.ifCond .eq 7, 3) := by decide +kernel
theorem dX9_let_89 : decode cX9_let 89 = .ok (.iconst 1, 1) := by decide +kernel
theorem dX9_let_90 : decode cX9_let 90 = .ok (.goto 4, 3) := by decide +kernel
theorem dX9_let_93 : decode cX9_let 93 = .ok (.iconst 0, 1) := by decide +kernel
theorem dX9_let_94 : decode cX9_let 94 = .ok (.ireturn, 1) := by decide +kernel
theorem dX9_clashes_0 : decode cX9_clashes 0 = .ok (.iload_n 1, 1) := by decide +kernel
theorem dX9_clashes_1 : decode cX9_clashes 1 = .ok (.invokestatic 170, 3) := by decide +kernel
theorem dX9_clashes_4 : decode cX9_clashes 4 = .ok (.ifCond .ne 9, 3) := by decide +kernel
theorem dX9_clashes_7 : decode cX9_clashes 7 = .ok (.aload_n 0, 1) := by decide +kernel
theorem dX9_clashes_8 : decode cX9_clashes 8 = .ok (.iconst (-1), 1) := by decide +kernel
theorem dX9_clashes_9 : decode cX9_clashes 9 = .ok (.invokevirtual 74, 3) := by decide +kernel
theorem dX9_clashes_12 : decode cX9_clashes 12 = .ok (.ireturn, 1) := by decide +kernel
theorem dX9_clashes_13 : decode cX9_clashes 13 = .ok (.iconst 0, 1) := by decide +kernel
theorem dX9_clashes_14 : decode cX9_clashes 14 = .ok (.istore_n 2, 1) := by decide +kernel
theorem dX9_clashes_15 : decode cX9_clashes 15 = .ok (.iconst 1, 1) := by decide +kernel
theorem dX9_clashes_16 : decode cX9_clashes 16 = .ok (.istore_n 3, 1) := by decide +kernel
theorem dX9_clashes_17 : decode cX9_clashes 17 = .ok (.iload_n 3, 1) := by decide +kernel
theorem dX9_clashes_18 : decode cX9_clashes 18 = .ok (.aload_n 0, 1) := by decide +kernel
theorem dX9_clashes_19 : decode cX9_clashes 19 = .ok (.getfield 19, 3) := by decide +kernel
theorem dX9_clashes_22 : decode cX9_clashes 22 = .ok (.invokevirtual 78, 3) := by decide +kernel
theorem dX9_clashes_25 : decode cX9_clashes 25 = .ok (.if_icmp .ge 86, 3) := by decide +kernel
theorem dX9_clashes_28 : decode cX9_clashes 28 = .ok (.aload_n 0, 1) := by decide +kernel
theorem dX9_clashes_29 : decode cX9_clashes 29 = .ok (.getfield 19, 3) := by decide +kernel
theorem dX9_clashes_32 : decode cX9_clashes 32 = .ok (.iload_n 3, 1) := by decide +kernel
theorem dX9_clashes_33 : decode cX9_clashes 33 = .ok (.invokevirtual 190, 3) := by decide +kernel
theorem dX9_clashes_36 : decode cX9_clashes 36 = .ok (.checkcast 173, 3) := by decide +kernel
theorem dX9_clashes_39 : decode cX9_clashes 39 = .ok (.astore 4, 2) := by decide +kernel
theorem dX9_clashes_41 : decode cX9_clashes 41 = .ok (.aload 4, 2) := by decide +kernel
theorem dX9_clashes_43 : decode cX9_clashes 43 = .ok (.getfield 194, 3) := by decide +kernel
theorem dX9_clashes_46 : decode cX9_clashes 46 = .ok (.iload_n 1, 1) := by decide +kernel
theorem dX9_clashes_47 : decode cX9_clashes 47 = .ok (.if_icmp .eq 6, 3) := by decide +kernel
theorem dX9_clashes_50 : decode cX9_clashes 50 = .ok (.goto 55, 3) := by decide +kernel
theorem dX9_clashes_53 : decode cX9_clashes 53 = .ok (.iconst 0, 1) := by decide +kernel
theorem dX9_clashes_54 : decode cX9_clashes 54 = .ok (.istore 5, 2) := by decide +kernel
theorem dX9_clashes_56 : decode cX9_clashes 56 = .ok (.iload 5, 2) := by decide +kernel
theorem dX9_clashes_58 : decode cX9_clashes 58 = .ok (.iload_n 3, 1) := by decide +kernel
theorem dX9_clashes_59 : decode cX9_clashes 59 = .ok (.if_icmp .ge 46, 3) := by decide +kernel
theorem dX9_clashes_62 : decode cX9_clashes 62 = .ok (.aload_n 0, 1) := by decide +kernel
theorem dX9_clashes_63 : decode cX9_clashes 63 = .ok (.getfield 19, 3) := by decide +kernel
theorem dX9_clashes_66 : decode cX9_clashes 66 = .ok (.iload 5, 2) := by decide +kernel
theorem dX9_clashes_68 : decode cX9_clashes 68 = .ok (.invokevirtual 190, 3) := by decide +kernel
theorem dX9_clashes_71 : decode cX9_clashes 71 = .ok (.checkcast 173, 3) := by decide +kernel
theorem dX9_clashes_74 : decode cX9_clashes 74 = .ok (.astore 6, 2) := by decide +kernel
theorem dX9_clashes_76 : decode cX9_clashes 76 = .ok (.aload 6, 2) := by decide +kernel
theorem dX9_clashes_78 : decode cX9_clashes 78 = .ok (.getfield 194, 3) := by decide +kernel
theorem dX9_clashes_81 : decode cX9_clashes 81 = .ok (.iload_n 1, 1) := by decide +kernel
theorem dX9_clashes_82 : decode cX9_clashes 82 = .ok (.if_icmp .ne 17, 3) := by decide +kernel
theorem dX9_clashes_85 : decode cX9_clashes 85 = .ok (.aload_n 0, 1) := by decide +kernel
theorem dX9_clashes_86 : decode cX9_clashes 86 = .ok (.aload 6, 2) := by decide +kernel
theorem dX9_clashes_88 : decode cX9_clashes 88 = .ok (.aload 4, 2) := by decide +kernel
theorem dX9_clashes_90 : decode cX9_clashes 90 = .ok (.invokevirtual 197, 3) := by decide +kernel
theorem dX9_clashes_93 : decode cX9_clashes 93 = .ok (.ifCond .eq 6, 3) := by decide +kernel
theorem dX9_clashes_96 : decode cX9_clashes 96 = .ok (.iinc 2 1, 3) := by decide +kernel
theorem dX9_clashes_99 : decode cX9_clashes 99 = .ok (.iinc 5 1, 3) := by decide +kernel
theorem dX9_clashes_102 : decode cX9_clashes 102 = .ok (.goto (-46), 3) := by decide +kernel
theorem dX9_clashes_105 : decode cX9_clashes 105 = .ok (.iinc 3 1, 3) := by decide +kernel
theorem dX9_clashes_108 : decode cX9_clashes 108 = .ok (.goto (-91), 3) := by decide +kernel
theorem dX9_clashes_111 : decode cX9_clashes 111 = .ok (.iload_n 2, 1) := by decide +kernel
theorem dX9_clashes_112 : decode cX9_clashes 112 = .ok (.ireturn, 1) := by decide +kernel
theorem dX9_hours_0 : decode cX9_hours 0 = .ok (.iload_n 1, 1) := by decide +kernel
theorem dX9_hours_1 : decode cX9_hours 1 = .ok (.iconst 1, 1) := by decide +kernel
theorem dX9_hours_2 : decode cX9_hours 2 = .ok (.if_icmp .ge 10, 3) := by decide +kernel
theorem dX9_hours_5 : decode cX9_hours 5 = .ok (.aload_n 0, 1) := by decide +kernel
theorem dX9_hours_6 : decode cX9_hours 6 = .ok (.bipush (-4), 2) := by decide +kernel
theorem dX9_hours_8 : decode cX9_hours 8 = .ok (.invokevirtual 74, 3) := by decide +kernel
theorem dX9_hours_11 : decode cX9_hours 11 = .ok (.ireturn, 1) := by decide +kernel
theorem dX9_hours_12 : decode cX9_hours 12 = .ok (.iload_n 1, 1) := by decide +kernel
theorem dX9_hours_13 : decode cX9_hours 13 = .ok (.sipush 5000, 3) := by decide +kernel
theorem dX9_hours_16 : decode cX9_hours 16 = .ok (.aload_n 0, 1) := by decide +kernel
theorem dX9_hours_17 : decode cX9_hours 17 = .ok (.getfield 201, 3) := by decide +kernel
theorem dX9_hours_20 : decode cX9_hours 20 = .ok (.isub, 1) := by decide +kernel
theorem dX9_hours_21 : decode cX9_hours 21 = .ok (.if_icmp .le 10, 3) := by decide +kernel
theorem dX9_hours_24 : decode cX9_hours 24 = .ok (.aload_n 0, 1) := by decide +kernel
theorem dX9_hours_25 : decode cX9_hours 25 = .ok (.bipush (-6), 2) := by decide +kernel
theorem dX9_hours_27 : decode cX9_hours 27 = .ok (.invokevirtual 74, 3) := by decide +kernel
theorem dX9_hours_30 : decode cX9_hours 30 = .ok (.ireturn, 1) := by decide +kernel
theorem dX9_hours_31 : decode cX9_hours 31 = .ok (.iconst 0, 1) := by decide +kernel
theorem dX9_hours_32 : decode cX9_hours 32 = .ok (.istore_n 2, 1) := by decide +kernel
theorem dX9_hours_33 : decode cX9_hours 33 = .ok (.iload_n 2, 1) := by decide +kernel
theorem dX9_hours_34 : decode cX9_hours 34 = .ok (.iload_n 1, 1) := by decide +kernel
theorem dX9_hours_35 : decode cX9_hours 35 = .ok (.if_icmp .ge 13, 3) := by decide +kernel
theorem dX9_hours_38 : decode cX9_hours 38 = .ok (.aload_n 0, 1) := by decide +kernel
theorem dX9_hours_39 : decode cX9_hours 39 = .ok (.invokevirtual 204, 3) := by decide +kernel
theorem dX9_hours_42 : decode cX9_hours 42 = .ok (.iinc 2 1, 3) := by decide +kernel
theorem dX9_hours_45 : decode cX9_hours 45 = .ok (.goto (-12), 3) := by decide +kernel
theorem dX9_hours_48 : decode cX9_hours 48 = .ok (.aload_n 0, 1) := by decide +kernel
theorem dX9_hours_49 : decode cX9_hours 49 = .ok (.getfield 201, 3) := by decide +kernel
theorem dX9_hours_52 : decode cX9_hours 52 = .ok (.ireturn, 1) := by decide +kernel
theorem dX9_iron_0 : decode cX9_iron 0 = .ok (.aload_n 0, 1) := by decide +kernel
theorem dX9_iron_1 : decode cX9_iron 1 = .ok (.iload_n 1, 1) := by decide +kernel
theorem dX9_iron_2 : decode cX9_iron 2 = .ok (.invokevirtual 105, 3) := by decide +kernel
theorem dX9_iron_5 : decode cX9_iron 5 = .ok (.astore_n 2, 1) := by decide +kernel
theorem dX9_iron_6 : decode cX9_iron 6 = .ok (.aload_n 2, 1) := by decide +kernel
theorem dX9_iron_7 : decode cX9_iron 7 = .ok (.ifnonnull 9, 3) := by decide +kernel
theorem dX9_iron_10 : decode cX9_iron 10 = .ok (.aload_n 0, 1) := by decide +kernel
theorem dX9_iron_11 : decode cX9_iron 11 = .ok (.iconst (-1), 1) := by decide +kernel
theorem dX9_iron_12 : decode cX9_iron 12 = .ok (.invokevirtual 74, 3) := by decide +kernel
theorem dX9_iron_15 : decode cX9_iron 15 = .ok (.ireturn, 1) := by decide +kernel
theorem dX9_iron_16 : decode cX9_iron 16 = .ok (.aload_n 2, 1) := by decide +kernel
theorem dX9_iron_17 : decode cX9_iron 17 = .ok (.getfield 207, 3) := by decide +kernel
theorem dX9_iron_20 : decode cX9_iron 20 = .ok (.ifCond .eq 10, 3) := by decide +kernel
theorem dX9_iron_23 : decode cX9_iron 23 = .ok (.aload_n 0, 1) := by decide +kernel
theorem dX9_iron_24 : decode cX9_iron 24 = .ok (.bipush (-3), 2) := by decide +kernel
theorem dX9_iron_26 : decode cX9_iron 26 = .ok (.invokevirtual 74, 3) := by decide +kernel
theorem dX9_iron_29 : decode cX9_iron 29 = .ok (.ireturn, 1) := by decide +kernel
theorem dX9_iron_30 : decode cX9_iron 30 = .ok (.aload_n 2, 1) := by decide +kernel
theorem dX9_iron_31 : decode cX9_iron 31 = .ok (.iconst 1, 1) := by decide +kernel
theorem dX9_iron_32 : decode cX9_iron 32 = .ok (.putfield 207, 3) := by decide +kernel
theorem dX9_iron_35 : decode cX9_iron 35 = .ok (.aload_n 2, 1) := by decide +kernel
theorem dX9_iron_36 : decode cX9_iron 36 = .ok (.aload_n 0, 1) := by decide +kernel
theorem dX9_iron_37 : decode cX9_iron 37 = .ok (.invokevirtual 84, 3) := by decide +kernel
theorem dX9_iron_40 : decode cX9_iron 40 = .ok (.invokevirtual 210, 3) := by decide +kernel
theorem dX9_iron_43 : decode cX9_iron 43 = .ok (.ireturn, 1) := by decide +kernel
theorem dX9_renew_0 : decode cX9_renew 0 = .ok (.aload_n 0, 1) := by decide +kernel
theorem dX9_renew_1 : decode cX9_renew 1 = .ok (.iload_n 1, 1) := by decide +kernel
theorem dX9_renew_2 : decode cX9_renew 2 = .ok (.invokevirtual 105, 3) := by decide +kernel
theorem dX9_renew_5 : decode cX9_renew 5 = .ok (.astore_n 2, 1) := by decide +kernel
theorem dX9_renew_6 : decode cX9_renew 6 = .ok (.aload_n 2, 1) := by decide +kernel
theorem dX9_renew_7 : decode cX9_renew 7 = .ok (.ifnonnull 9, 3) := by decide +kernel
theorem dX9_renew_10 : decode cX9_renew 10 = .ok (.aload_n 0, 1) := by decide +kernel
theorem dX9_renew_11 : decode cX9_renew 11 = .ok (.iconst (-1), 1) := by decide +kernel
theorem dX9_renew_12 : decode cX9_renew 12 = .ok (.invokevirtual 74, 3) := by decide +kernel
theorem dX9_renew_15 : decode cX9_renew 15 = .ok (.ireturn, 1) := by decide +kernel
theorem dX9_renew_16 : decode cX9_renew 16 = .ok (.aload_n 2, 1) := by decide +kernel
theorem dX9_renew_17 : decode cX9_renew 17 = .ok (.getfield 207, 3) := by decide +kernel
theorem dX9_renew_20 : decode cX9_renew 20 = .ok (.ifCond .eq 10, 3) := by decide +kernel
theorem dX9_renew_23 : decode cX9_renew 23 = .ok (.aload_n 0, 1) := by decide +kernel
theorem dX9_renew_24 : decode cX9_renew 24 = .ok (.bipush (-3), 2) := by decide +kernel
theorem dX9_renew_26 : decode cX9_renew 26 = .ok (.invokevirtual 74, 3) := by decide +kernel
theorem dX9_renew_29 : decode cX9_renew 29 = .ok (.ireturn, 1) := by decide +kernel
theorem dX9_renew_30 : decode cX9_renew 30 = .ok (.aload_n 2, 1) := by decide +kernel
theorem dX9_renew_31 : decode cX9_renew 31 = .ok (.aload_n 0, 1) := by decide +kernel
theorem dX9_renew_32 : decode cX9_renew 32 = .ok (.invokevirtual 84, 3) := by decide +kernel
theorem dX9_renew_35 : decode cX9_renew 35 = .ok (.invokevirtual 210, 3) := by decide +kernel
theorem dX9_renew_38 : decode cX9_renew 38 = .ok (.ireturn, 1) := by decide +kernel
theorem dX9_stand_0 : decode cX9_stand 0 = .ok (.iload_n 1, 1) := by decide +kernel
theorem dX9_stand_1 : decode cX9_stand 1 = .ok (.invokestatic 170, 3) := by decide +kernel
theorem dX9_stand_4 : decode cX9_stand 4 = .ok (.ifCond .eq 11, 3) := by decide +kernel
theorem dX9_stand_7 : decode cX9_stand 7 = .ok (.aload_n 0, 1) := by decide +kernel
theorem dX9_stand_8 : decode cX9_stand 8 = .ok (.iload_n 2, 1) := by decide +kernel
theorem dX9_stand_9 : decode cX9_stand 9 = .ok (.invokevirtual 70, 3) := by decide +kernel
theorem dX9_stand_12 : decode cX9_stand 12 = .ok (.ifCond .ne 9, 3) := by decide +kernel
theorem dX9_stand_15 : decode cX9_stand 15 = .ok (.aload_n 0, 1) := by decide +kernel
theorem dX9_stand_16 : decode cX9_stand 16 = .ok (.iconst (-1), 1) := by decide +kernel
theorem dX9_stand_17 : decode cX9_stand 17 = .ok (.invokevirtual 150, 3) := by decide +kernel
theorem dX9_stand_20 : decode cX9_stand 20 = .ok (.ireturn, 1) := by decide +kernel
theorem dX9_stand_21 : decode cX9_stand 21 = .ok (.aload_n 0, 1) := by decide +kernel
theorem dX9_stand_22 : decode cX9_stand 22 = .ok (.getfield 31, 3) := by decide +kernel
theorem dX9_stand_25 : decode cX9_stand 25 = .ok (.iload_n 1, 1) := by decide +kernel
theorem dX9_stand_26 : decode cX9_stand 26 = .ok (.iaload, 1) := by decide +kernel
theorem dX9_stand_27 : decode cX9_stand 27 = .ok (.istore_n 3, 1) := by decide +kernel
theorem dX9_stand_28 : decode cX9_stand 28 = .ok (.aload_n 0, 1) := by decide +kernel
theorem dX9_stand_29 : decode cX9_stand 29 = .ok (.getfield 31, 3) := by decide +kernel
theorem dX9_stand_32 : decode cX9_stand 32 = .ok (.iload_n 1, 1) := by decide +kernel
theorem dX9_stand_33 : decode cX9_stand 33 = .ok (.iload_n 2, 1) := by decide +kernel
theorem dX9_stand_34 : decode cX9_stand 34 = .ok (.iastore, 1) := by decide +kernel
theorem dX9_stand_35 : decode cX9_stand 35 = .ok (.iload_n 3, 1) := by decide +kernel
theorem dX9_stand_36 : decode cX9_stand 36 = .ok (.ireturn, 1) := by decide +kernel
theorem dX9_way_0 : decode cX9_way 0 = .ok (.aload_n 0, 1) := by decide +kernel
theorem dX9_way_1 : decode cX9_way 1 = .ok (.iload_n 1, 1) := by decide +kernel
theorem dX9_way_2 : decode cX9_way 2 = .ok (.invokevirtual 70, 3) := by decide +kernel
theorem dX9_way_5 : decode cX9_way 5 = .ok (.ifCond .eq 11, 3) := by decide +kernel
theorem dX9_way_8 : decode cX9_way 8 = .ok (.aload_n 0, 1) := by decide +kernel
theorem dX9_way_9 : decode cX9_way 9 = .ok (.iload_n 2, 1) := by decide +kernel
theorem dX9_way_10 : decode cX9_way 10 = .ok (.invokevirtual 70, 3) := by decide +kernel
theorem dX9_way_13 : decode cX9_way 13 = .ok (.ifCond .ne 9, 3) := by decide +kernel
theorem dX9_way_16 : decode cX9_way 16 = .ok (.aload_n 0, 1) := by decide +kernel
theorem dX9_way_17 : decode cX9_way 17 = .ok (.iconst (-1), 1) := by decide +kernel
theorem dX9_way_18 : decode cX9_way 18 = .ok (.invokevirtual 74, 3) := by decide +kernel
theorem dX9_way_21 : decode cX9_way 21 = .ok (.ireturn, 1) := by decide +kernel
theorem dX9_way_22 : decode cX9_way 22 = .ok (.aload_n 0, 1) := by decide +kernel
theorem dX9_way_23 : decode cX9_way 23 = .ok (.iload_n 1, 1) := by decide +kernel
theorem dX9_way_24 : decode cX9_way 24 = .ok (.iload_n 2, 1) := by decide +kernel
theorem dX9_way_25 : decode cX9_way 25 = .ok (.invokevirtual 213, 3) := by decide +kernel
theorem dX9_way_28 : decode cX9_way 28 = .ok (.ireturn, 1) := by decide +kernel
theorem dX9_fire_0 : decode cX9_fire 0 = .ok (.aload_n 0, 1) := by decide +kernel
theorem dX9_fire_1 : decode cX9_fire 1 = .ok (.iload_n 1, 1) := by decide +kernel
theorem dX9_fire_2 : decode cX9_fire 2 = .ok (.invokevirtual 105, 3) := by decide +kernel
theorem dX9_fire_5 : decode cX9_fire 5 = .ok (.astore_n 3, 1) := by decide +kernel
theorem dX9_fire_6 : decode cX9_fire 6 = .ok (.aload_n 3, 1) := by decide +kernel
theorem dX9_fire_7 : decode cX9_fire 7 = .ok (.ifnonnull 9, 3) := by decide +kernel
theorem dX9_fire_10 : decode cX9_fire 10 = .ok (.aload_n 0, 1) := by decide +kernel
theorem dX9_fire_11 : decode cX9_fire 11 = .ok (.iconst (-1), 1) := by decide +kernel
theorem dX9_fire_12 : decode cX9_fire 12 = .ok (.invokevirtual 74, 3) := by decide +kernel
theorem dX9_fire_15 : decode cX9_fire 15 = .ok (.ireturn, 1) := by decide +kernel
theorem dX9_fire_16 : decode cX9_fire 16 = .ok (.aload_n 3, 1) := by decide +kernel
theorem dX9_fire_17 : decode cX9_fire 17 = .ok (.getfield 156, 3) := by decide +kernel
theorem dX9_fire_20 : decode cX9_fire 20 = .ok (.ifCond .ne 10, 3) := by decide +kernel
theorem dX9_fire_23 : decode cX9_fire 23 = .ok (.aload_n 0, 1) := by decide +kernel
theorem dX9_fire_24 : decode cX9_fire 24 = .ok (.bipush (-5), 2) := by decide +kernel
theorem dX9_fire_26 : decode cX9_fire 26 = .ok (.invokevirtual 74, 3) := by decide +kernel
theorem dX9_fire_29 : decode cX9_fire 29 = .ok (.ireturn, 1) := by decide +kernel
theorem dX9_fire_30 : decode cX9_fire 30 = .ok (.aload_n 3, 1) := by decide +kernel
theorem dX9_fire_31 : decode cX9_fire 31 = .ok (.getfield 156, 3) := by decide +kernel
theorem dX9_fire_34 : decode cX9_fire 34 = .ok (.iconst 2, 1) := by decide +kernel
theorem dX9_fire_35 : decode cX9_fire 35 = .ok (.if_icmp .eq 12, 3) := by decide +kernel
theorem dX9_fire_38 : decode cX9_fire 38 = .ok (.iload_n 2, 1) := by decide +kernel
theorem dX9_fire_39 : decode cX9_fire 39 = .ok (.ifCond .lt 8, 3) := by decide +kernel
theorem dX9_fire_42 : decode cX9_fire 42 = .ok (.iload_n 2, 1) := by decide +kernel
theorem dX9_fire_43 : decode cX9_fire 43 = .ok (.iconst 2, 1) := by decide +kernel
theorem dX9_fire_44 : decode cX9_fire 44 = .ok (.if_icmp .le 10, 3) := by decide +kernel
theorem dX9_fire_47 : decode cX9_fire 47 = .ok (.aload_n 0, 1) := by decide +kernel
theorem dX9_fire_48 : decode cX9_fire 48 = .ok (.bipush (-2), 2) := by decide +kernel
theorem dX9_fire_50 : decode cX9_fire 50 = .ok (.invokevirtual 74, 3) := by decide +kernel
theorem dX9_fire_53 : decode cX9_fire 53 = .ok (.ireturn, 1) := by decide +kernel
theorem dX9_fire_54 : decode cX9_fire 54 = .ok (.aload_n 0, 1) := by decide +kernel
theorem dX9_fire_55 : decode cX9_fire 55 = .ok (.iload_n 1, 1) := by decide +kernel
theorem dX9_fire_56 : decode cX9_fire 56 = .ok (.invokevirtual 217, 3) := by decide +kernel
theorem dX9_fire_59 : decode cX9_fire 59 = .ok (.istore 4, 2) := by decide +kernel
theorem dX9_fire_61 : decode cX9_fire 61 = .ok (.iload 4, 2) := by decide +kernel
theorem dX9_fire_63 : decode cX9_fire 63 = .ok (.ifCond .ne 5, 3) := by decide +kernel
theorem dX9_fire_66 : decode cX9_fire 66 = .ok (.iconst 0, 1) := by decide +kernel
theorem dX9_fire_67 : decode cX9_fire 67 = .ok (.ireturn, 1) := by decide +kernel
theorem dX9_fire_68 : decode cX9_fire 68 = .ok (.iload 4, 2) := by decide +kernel
theorem dX9_fire_70 : decode cX9_fire 70 = .ok (.invokestatic 220, 3) := by decide +kernel
theorem dX9_fire_73 : decode cX9_fire 73 = .ok (.istore 5, 2) := by decide +kernel
theorem dX9_fire_75 : decode cX9_fire 75 = .ok (.iload_n 2, 1) := by decide +kernel
theorem dX9_fire_76 : decode cX9_fire 76 = .ok (.iconst 2, 1) := by decide +kernel
theorem dX9_fire_77 : decode cX9_fire 77 = .ok (.if_icmp .ne 6, 3) := by decide +kernel
theorem dX9_fire_80 : decode cX9_fire 80 = .ok (.iload 5, 2) := by decide +kernel
theorem dX9_fire_82 : decode cX9_fire 82 = .ok (.ireturn, 1) := by decide +kernel
theorem dX9_fire_83 : decode cX9_fire 83 = .ok (.aload_n 0, 1) := by decide +kernel
theorem dX9_fire_84 : decode cX9_fire 84 = .ok (.iload 4, 2) := by decide +kernel
theorem dX9_fire_86 : decode cX9_fire 86 = .ok (.invokevirtual 225, 3) := by decide +kernel
theorem dX9_fire_89 : decode cX9_fire 89 = .ok (.istore 6, 2) := by decide +kernel
theorem dX9_fire_91 : decode cX9_fire 91 = .ok (.iload_n 2, 1) := by decide +kernel
theorem dX9_fire_92 : decode cX9_fire 92 = .ok (.iconst 1, 1) := by decide +kernel
theorem dX9_fire_93 : decode cX9_fire 93 = .ok (.if_icmp .ne 6, 3) := by decide +kernel
theorem dX9_fire_96 : decode cX9_fire 96 = .ok (.iload 6, 2) := by decide +kernel
theorem dX9_fire_98 : decode cX9_fire 98 = .ok (.ireturn, 1) := by decide +kernel
theorem dX9_fire_99 : decode cX9_fire 99 = .ok (.iconst 4, 1) := by decide +kernel
theorem dX9_fire_100 : decode cX9_fire 100 = .ok (.aload_n 0, 1) := by decide +kernel
theorem dX9_fire_101 : decode cX9_fire 101 = .ok (.iload 6, 2) := by decide +kernel
theorem dX9_fire_103 : decode cX9_fire 103 = .ok (.iload 4, 2) := by decide +kernel
theorem dX9_fire_105 : decode cX9_fire 105 = .ok (.invokevirtual 228, 3) := by decide +kernel
theorem dX9_fire_108 : decode cX9_fire 108 = .ok (.imul, 1) := by decide +kernel
theorem dX9_fire_109 : decode cX9_fire 109 = .ok (.iconst 2, 1) := by decide +kernel
theorem dX9_fire_110 : decode cX9_fire 110 = .ok (.iload 5, 2) := by decide +kernel
theorem dX9_fire_112 : decode cX9_fire 112 = .ok (.imul, 1) := by decide +kernel
theorem dX9_fire_113 : decode cX9_fire 113 = .ok (.iadd, 1) := by decide +kernel
theorem dX9_fire_114 : decode cX9_fire 114 = .ok (.ireturn, 1) := by decide +kernel
theorem dX9_reading_0 : decode cX9_reading 0 = .ok (.aload_n 0, 1) := by decide +kernel
theorem dX9_reading_1 : decode cX9_reading 1 = .ok (.iload_n 1, 1) := by decide +kernel
theorem dX9_reading_2 : decode cX9_reading 2 = .ok (.invokevirtual 105, 3) := by decide +kernel
theorem dX9_reading_5 : decode cX9_reading 5 = .ok (.astore 5, 2) := by decide +kernel
theorem dX9_reading_7 : decode cX9_reading 7 = .ok (.aload 5, 2) := by decide +kernel
theorem dX9_reading_9 : decode cX9_reading 9 = .ok (.ifnonnull 9, 3) := by decide +kernel
theorem dX9_reading_12 : decode cX9_reading 12 = .ok (.aload_n 0, 1) := by decide +kernel
theorem dX9_reading_13 : decode cX9_reading 13 = .ok (.iconst (-1), 1) := by decide +kernel
theorem dX9_reading_14 : decode cX9_reading 14 = .ok (.invokevirtual 74, 3) := by decide +kernel
theorem dX9_reading_17 : decode cX9_reading 17 = .ok (.ireturn, 1) := by decide +kernel
theorem dX9_reading_18 : decode cX9_reading 18 = .ok (.iload_n 2, 1) := by decide +kernel
theorem dX9_reading_19 : decode cX9_reading 19 = .ok (.ifCond .lt 12, 3) := by decide +kernel
theorem dX9_reading_22 : decode cX9_reading 22 = .ok (.iload_n 3, 1) := by decide +kernel
theorem dX9_reading_23 : decode cX9_reading 23 = .ok (.ifCond .lt 8, 3) := by decide +kernel
theorem dX9_reading_26 : decode cX9_reading 26 = .ok (.iload 4, 2) := by decide +kernel
theorem dX9_reading_28 : decode cX9_reading 28 = .ok (.ifCond .ge 10, 3) := by decide +kernel
theorem dX9_reading_31 : decode cX9_reading 31 = .ok (.aload_n 0, 1) := by decide +kernel
theorem dX9_reading_32 : decode cX9_reading 32 = .ok (.bipush (-4), 2) := by decide +kernel
theorem dX9_reading_34 : decode cX9_reading 34 = .ok (.invokevirtual 74, 3) := by decide +kernel
theorem dX9_reading_37 : decode cX9_reading 37 = .ok (.ireturn, 1) := by decide +kernel
theorem dX9_reading_38 : decode cX9_reading 38 = .ok (.iload_n 2, 1) := by decide +kernel
theorem dX9_reading_39 : decode cX9_reading 39 = .ok (.sipush 5000, 3) := by decide +kernel
theorem dX9_reading_42 : decode cX9_reading 42 = .ok (.if_icmp .gt 17, 3) := by decide +kernel
theorem dX9_reading_45 : decode cX9_reading 45 = .ok (.iload_n 3, 1) := by decide +kernel
theorem dX9_reading_46 : decode cX9_reading 46 = .ok (.sipush 5000, 3) := by decide +kernel
theorem dX9_reading_49 : decode cX9_reading 49 = .ok (.if_icmp .gt 10, 3) := by decide +kernel
theorem dX9_reading_52 : decode cX9_reading 52 = .ok (.iload 4, 2) := by decide +kernel
theorem dX9_reading_54 : decode cX9_reading 54 = .ok (.bipush 50, 2) := by decide +kernel
theorem dX9_reading_56 : decode cX9_reading 56 = .ok (.if_icmp .le 10, 3) := by decide +kernel
theorem dX9_reading_59 : decode cX9_reading 59 = .ok (.aload_n 0, 1) := by decide +kernel
theorem dX9_reading_60 : decode cX9_reading 60 = .ok (.bipush (-6), 2) := by decide +kernel
theorem dX9_reading_62 : decode cX9_reading 62 = .ok (.invokevirtual 74, 3) := by decide +kernel
theorem dX9_reading_65 : decode cX9_reading 65 = .ok (.ireturn, 1) := by decide +kernel
theorem dX9_reading_66 : decode cX9_reading 66 = .ok (.aload_n 0, 1) := by decide +kernel
theorem dX9_reading_67 : decode cX9_reading 67 = .ok (.getfield 231, 3) := by decide +kernel
theorem dX9_reading_70 : decode cX9_reading 70 = .ok (.bipush 40, 2) := by decide +kernel
theorem dX9_reading_72 : decode cX9_reading 72 = .ok (.if_icmp .lt 10, 3) := by decide +kernel
theorem dX9_reading_75 : decode cX9_reading 75 = .ok (.aload_n 0, 1) := by decide +kernel
theorem dX9_reading_76 : decode cX9_reading 76 = .ok (.bipush (-6), 2) := by decide +kernel
theorem dX9_reading_78 : decode cX9_reading 78 = .ok (.invokevirtual 74, 3) := by decide +kernel
theorem dX9_reading_81 : decode cX9_reading 81 = .ok (.ireturn, 1) := by decide +kernel
theorem dX9_reading_82 : decode cX9_reading 82 = .ok (.aload 5, 2) := by decide +kernel
theorem dX9_reading_84 : decode cX9_reading 84 = .ok (.iload_n 2, 1) := by decide +kernel
theorem dX9_reading_85 : decode cX9_reading 85 = .ok (.iload_n 3, 1) := by decide +kernel
theorem dX9_reading_86 : decode cX9_reading 86 = .ok (.isub, 1) := by decide +kernel
theorem dX9_reading_87 : decode cX9_reading 87 = .ok (.iload 4, 2) := by decide +kernel
theorem dX9_reading_89 : decode cX9_reading 89 = .ok (.isub, 1) := by decide +kernel
theorem dX9_reading_90 : decode cX9_reading 90 = .ok (.iload_n 2, 1) := by decide +kernel
theorem dX9_reading_91 : decode cX9_reading 91 = .ok (.iload_n 3, 1) := by decide +kernel
theorem dX9_reading_92 : decode cX9_reading 92 = .ok (.isub, 1) := by decide +kernel
theorem dX9_reading_93 : decode cX9_reading 93 = .ok (.iload 4, 2) := by decide +kernel
theorem dX9_reading_95 : decode cX9_reading 95 = .ok (.iadd, 1) := by decide +kernel
theorem dX9_reading_96 : decode cX9_reading 96 = .ok (.invokevirtual 234, 3) := by decide +kernel
theorem dX9_reading_99 : decode cX9_reading 99 = .ok (.aload_n 0, 1) := by decide +kernel
theorem dX9_reading_100 : decode cX9_reading 100 = .ok (.dup, 1) := by decide +kernel
theorem dX9_reading_101 : decode cX9_reading 101 = .ok (.getfield 231, 3) := by decide +kernel
theorem dX9_reading_104 : decode cX9_reading 104 = .ok (.iconst 1, 1) := by decide +kernel
theorem dX9_reading_105 : decode cX9_reading 105 = .ok (.iadd, 1) := by decide +kernel
theorem dX9_reading_106 : decode cX9_reading 106 = .ok (.putfield 231, 3) := by decide +kernel
theorem dX9_reading_109 : decode cX9_reading 109 = .ok (.aload_n 0, 1) := by decide +kernel
theorem dX9_reading_110 : decode cX9_reading 110 = .ok (.getfield 231, 3) := by decide +kernel
theorem dX9_reading_113 : decode cX9_reading 113 = .ok (.ireturn, 1) := by decide +kernel
theorem dX9_span_0 : decode cX9_span 0 = .ok (.aload_n 0, 1) := by decide +kernel
theorem dX9_span_1 : decode cX9_span 1 = .ok (.iload_n 1, 1) := by decide +kernel
theorem dX9_span_2 : decode cX9_span 2 = .ok (.invokevirtual 105, 3) := by decide +kernel
theorem dX9_span_5 : decode cX9_span 5 = .ok (.astore_n 3, 1) := by decide +kernel
theorem dX9_span_6 : decode cX9_span 6 = .ok (.aload_n 3, 1) := by decide +kernel
theorem dX9_span_7 : decode cX9_span 7 = .ok (.ifnonnull 9, 3) := by decide +kernel
theorem dX9_span_10 : decode cX9_span 10 = .ok (.aload_n 0, 1) := by decide +kernel
theorem dX9_span_11 : decode cX9_span 11 = .ok (.iconst (-1), 1) := by decide +kernel
theorem dX9_span_12 : decode cX9_span 12 = .ok (.invokevirtual 74, 3) := by decide +kernel
theorem dX9_span_15 : decode cX9_span 15 = .ok (.ireturn, 1) := by decide +kernel
theorem dX9_span_16 : decode cX9_span 16 = .ok (.iload_n 2, 1) := by decide +kernel
theorem dX9_span_17 : decode cX9_span 17 = .ok (.ifCond .lt 8, 3) := by decide +kernel
theorem dX9_span_20 : decode cX9_span 20 = .ok (.iload_n 2, 1) := by decide +kernel
theorem dX9_span_21 : decode cX9_span 21 = .ok (.iconst 1, 1) := by decide +kernel
theorem dX9_span_22 : decode cX9_span 22 = .ok (.if_icmp .le 10, 3) := by decide +kernel
theorem dX9_span_25 : decode cX9_span 25 = .ok (.aload_n 0, 1) := by decide +kernel
theorem dX9_span_26 : decode cX9_span 26 = .ok (.bipush (-2), 2) := by decide +kernel
theorem dX9_span_28 : decode cX9_span 28 = .ok (.invokevirtual 74, 3) := by decide +kernel
theorem dX9_span_31 : decode cX9_span 31 = .ok (.ireturn, 1) := by decide +kernel
theorem dX9_span_32 : decode cX9_span 32 = .ok (.aload_n 3, 1) := by decide +kernel
theorem dX9_span_33 : decode cX9_span 33 = .ok (.getfield 237, 3) := by decide +kernel
theorem dX9_span_36 : decode cX9_span 36 = .ok (.aload_n 3, 1) := by decide +kernel
theorem dX9_span_37 : decode cX9_span 37 = .ok (.getfield 240, 3) := by decide +kernel
theorem dX9_span_40 : decode cX9_span 40 = .ok (.if_icmp .le 6, 3) := by decide +kernel
theorem dX9_span_43 : decode cX9_span 43 = .ok (.bipush (-9), 2) := by decide +kernel
theorem dX9_span_45 : decode cX9_span 45 = .ok (.ireturn, 1) := by decide +kernel
theorem dX9_span_46 : decode cX9_span 46 = .ok (.iload_n 2, 1) := by decide +kernel
theorem dX9_span_47 : decode cX9_span 47 = .ok (.ifCond .ne 10, 3) := by decide +kernel
theorem dX9_span_50 : decode cX9_span 50 = .ok (.aload_n 3, 1) := by decide +kernel
theorem dX9_span_51 : decode cX9_span 51 = .ok (.getfield 237, 3) := by decide +kernel
theorem dX9_span_54 : decode cX9_span 54 = .ok (.goto 7, 3) := by decide +kernel
theorem dX9_span_57 : decode cX9_span 57 = .ok (.aload_n 3, 1) := by decide +kernel
theorem dX9_span_58 : decode cX9_span 58 = .ok (.getfield 240, 3) := by decide +kernel
theorem dX9_span_61 : decode cX9_span 61 = .ok (.ireturn, 1) := by decide +kernel
theorem dX9_best_0 : decode cX9_best 0 = .ok (.iload_n 1, 1) := by decide +kernel
theorem dX9_best_1 : decode cX9_best 1 = .ok (.invokestatic 243, 3) := by decide +kernel
theorem dX9_best_4 : decode cX9_best 4 = .ok (.istore_n 2, 1) := by decide +kernel
theorem dX9_best_5 : decode cX9_best 5 = .ok (.iload_n 2, 1) := by decide +kernel
theorem dX9_best_6 : decode cX9_best 6 = .ok (.ifCond .eq 9, 3) := by decide +kernel
theorem dX9_best_9 : decode cX9_best 9 = .ok (.aload_n 0, 1) := by decide +kernel
theorem dX9_best_10 : decode cX9_best 10 = .ok (.iload_n 2, 1) := by decide +kernel
theorem dX9_best_11 : decode cX9_best 11 = .ok (.invokevirtual 74, 3) := by decide +kernel
theorem dX9_best_14 : decode cX9_best 14 = .ok (.ireturn, 1) := by decide +kernel
theorem dX9_best_15 : decode cX9_best 15 = .ok (.aload_n 0, 1) := by decide +kernel
theorem dX9_best_16 : decode cX9_best 16 = .ok (.iload_n 1, 1) := by decide +kernel
theorem dX9_best_17 : decode cX9_best 17 = .ok (.invokevirtual 246, 3) := by decide +kernel
theorem dX9_best_20 : decode cX9_best 20 = .ok (.ireturn, 1) := by decide +kernel
theorem dX9_bestWorth_0 : decode cX9_bestWorth 0 = .ok (.iload_n 1, 1) := by decide +kernel
theorem dX9_bestWorth_1 : decode cX9_bestWorth 1 = .ok (.invokestatic 243, 3) := by decide +kernel
theorem dX9_bestWorth_4 : decode cX9_bestWorth 4 = .ok (.istore_n 2, 1) := by decide +kernel
theorem dX9_bestWorth_5 : decode cX9_bestWorth 5 = .ok (.iload_n 2, 1) := by decide +kernel
theorem dX9_bestWorth_6 : decode cX9_bestWorth 6 = .ok (.ifCond .eq 9, 3) := by decide +kernel
theorem dX9_bestWorth_9 : decode cX9_bestWorth 9 = .ok (.aload_n 0, 1) := by decide +kernel
theorem dX9_bestWorth_10 : decode cX9_bestWorth 10 = .ok (.iload_n 2, 1) := by decide +kernel
theorem dX9_bestWorth_11 : decode cX9_bestWorth 11 = .ok (.invokevirtual 74, 3) := by decide +kernel
theorem dX9_bestWorth_14 : decode cX9_bestWorth 14 = .ok (.ireturn, 1) := by decide +kernel
theorem dX9_bestWorth_15 : decode cX9_bestWorth 15 = .ok (.aload_n 0, 1) := by decide +kernel
theorem dX9_bestWorth_16 : decode cX9_bestWorth 16 = .ok (.getfield 58, 3) := by decide +kernel
theorem dX9_bestWorth_19 : decode cX9_bestWorth 19 = .ok (.aload_n 0, 1) := by decide +kernel
theorem dX9_bestWorth_20 : decode cX9_bestWorth 20 = .ok (.iload_n 1, 1) := by decide +kernel
theorem dX9_bestWorth_21 : decode cX9_bestWorth 21 = .ok (.invokevirtual 246, 3) := by decide +kernel
theorem dX9_bestWorth_24 : decode cX9_bestWorth 24 = .ok (.invokevirtual 249, 3) := by decide +kernel
theorem dX9_bestWorth_27 : decode cX9_bestWorth 27 = .ok (.ireturn, 1) := by decide +kernel
theorem dX9_days_0 : decode cX9_days 0 = .ok (.aload_n 0, 1) := by decide +kernel
theorem dX9_days_1 : decode cX9_days 1 = .ok (.iload_n 1, 1) := by decide +kernel
theorem dX9_days_2 : decode cX9_days 2 = .ok (.iload_n 2, 1) := by decide +kernel
theorem dX9_days_3 : decode cX9_days 3 = .ok (.invokevirtual 252, 3) := by decide +kernel
theorem dX9_days_6 : decode cX9_days 6 = .ok (.istore_n 3, 1) := by decide +kernel
theorem dX9_days_7 : decode cX9_days 7 = .ok (.iload_n 3, 1) := by decide +kernel
theorem dX9_days_8 : decode cX9_days 8 = .ok (.ifCond .eq 9, 3) := by decide +kernel
theorem dX9_days_11 : decode cX9_days 11 = .ok (.aload_n 0, 1) := by decide +kernel
theorem dX9_days_12 : decode cX9_days 12 = .ok (.iload_n 3, 1) := by decide +kernel
theorem dX9_days_13 : decode cX9_days 13 = .ok (.invokevirtual 74, 3) := by decide +kernel
theorem dX9_days_16 : decode cX9_days 16 = .ok (.ireturn, 1) := by decide +kernel
theorem dX9_days_17 : decode cX9_days 17 = .ok (.aload_n 0, 1) := by decide +kernel
theorem dX9_days_18 : decode cX9_days 18 = .ok (.iload_n 1, 1) := by decide +kernel
theorem dX9_days_19 : decode cX9_days 19 = .ok (.iload_n 2, 1) := by decide +kernel
theorem dX9_days_20 : decode cX9_days 20 = .ok (.invokevirtual 255, 3) := by decide +kernel
theorem dX9_days_23 : decode cX9_days 23 = .ok (.aload_n 0, 1) := by decide +kernel
theorem dX9_days_24 : decode cX9_days 24 = .ok (.getfield 65, 3) := by decide +kernel
theorem dX9_days_27 : decode cX9_days 27 = .ok (.getfield 258, 3) := by decide +kernel
theorem dX9_days_30 : decode cX9_days 30 = .ok (.ireturn, 1) := by decide +kernel
theorem dX9_dayOf_0 : decode cX9_dayOf 0 = .ok (.aload_n 0, 1) := by decide +kernel
theorem dX9_dayOf_1 : decode cX9_dayOf 1 = .ok (.iload_n 1, 1) := by decide +kernel
theorem dX9_dayOf_2 : decode cX9_dayOf 2 = .ok (.iload_n 2, 1) := by decide +kernel
theorem dX9_dayOf_3 : decode cX9_dayOf 3 = .ok (.invokevirtual 252, 3) := by decide +kernel
theorem dX9_dayOf_6 : decode cX9_dayOf 6 = .ok (.istore 4, 2) := by decide +kernel
theorem dX9_dayOf_8 : decode cX9_dayOf 8 = .ok (.iload 4, 2) := by decide +kernel
theorem dX9_dayOf_10 : decode cX9_dayOf 10 = .ok (.ifCond .eq 10, 3) := by decide +kernel
theorem dX9_dayOf_13 : decode cX9_dayOf 13 = .ok (.aload_n 0, 1) := by decide +kernel
theorem dX9_dayOf_14 : decode cX9_dayOf 14 = .ok (.iload 4, 2) := by decide +kernel
theorem dX9_dayOf_16 : decode cX9_dayOf 16 = .ok (.invokevirtual 74, 3) := by decide +kernel
theorem dX9_dayOf_19 : decode cX9_dayOf 19 = .ok (.ireturn, 1) := by decide +kernel
theorem dX9_dayOf_20 : decode cX9_dayOf 20 = .ok (.aload_n 0, 1) := by decide +kernel
theorem dX9_dayOf_21 : decode cX9_dayOf 21 = .ok (.iload_n 3, 1) := by decide +kernel
theorem dX9_dayOf_22 : decode cX9_dayOf 22 = .ok (.invokevirtual 105, 3) := by decide +kernel
theorem dX9_dayOf_25 : decode cX9_dayOf 25 = .ok (.ifnonnull 9, 3) := by decide +kernel
theorem dX9_dayOf_28 : decode cX9_dayOf 28 = .ok (.aload_n 0, 1) := by decide +kernel
theorem dX9_dayOf_29 : decode cX9_dayOf 29 = .ok (.iconst (-1), 1) := by decide +kernel
theorem dX9_dayOf_30 : decode cX9_dayOf 30 = .ok (.invokevirtual 74, 3) := by decide +kernel
theorem dX9_dayOf_33 : decode cX9_dayOf 33 = .ok (.ireturn, 1) := by decide +kernel
theorem dX9_dayOf_34 : decode cX9_dayOf 34 = .ok (.iload_n 1, 1) := by decide +kernel
theorem dX9_dayOf_35 : decode cX9_dayOf 35 = .ok (.iload_n 3, 1) := by decide +kernel
theorem dX9_dayOf_36 : decode cX9_dayOf 36 = .ok (.invokestatic 187, 3) := by decide +kernel
theorem dX9_dayOf_39 : decode cX9_dayOf 39 = .ok (.ifCond .ne 6, 3) := by decide +kernel
theorem dX9_dayOf_42 : decode cX9_dayOf 42 = .ok (.bipush (-9), 2) := by decide +kernel
theorem dX9_dayOf_44 : decode cX9_dayOf 44 = .ok (.ireturn, 1) := by decide +kernel
theorem dX9_dayOf_45 : decode cX9_dayOf 45 = .ok (.aload_n 0, 1) := by decide +kernel
theorem dX9_dayOf_46 : decode cX9_dayOf 46 = .ok (.iload_n 1, 1) := by decide +kernel
theorem dX9_dayOf_47 : decode cX9_dayOf 47 = .ok (.iload_n 2, 1) := by decide +kernel
theorem dX9_dayOf_48 : decode cX9_dayOf 48 = .ok (.invokevirtual 255, 3) := by decide +kernel
theorem dX9_dayOf_51 : decode cX9_dayOf 51 = .ok (.iload_n 1, 1) := by decide +kernel
theorem dX9_dayOf_52 : decode cX9_dayOf 52 = .ok (.iconst 1, 1) := by decide +kernel
theorem dX9_dayOf_53 : decode cX9_dayOf 53 = .ok (.iload_n 3, 1) := by decide +kernel
theorem dX9_dayOf_54 : decode cX9_dayOf 54 = .ok (.ishl, 1) := by decide +kernel
theorem dX9_dayOf_55 : decode cX9_dayOf 55 = .ok (.iconst 1, 1) := by decide +kernel
theorem dX9_dayOf_56 : decode cX9_dayOf 56 = .ok (.isub, 1) := by decide +kernel
theorem dX9_dayOf_57 : decode cX9_dayOf 57 = .ok (.iand, 1) := by decide +kernel
theorem dX9_dayOf_58 : decode cX9_dayOf 58 = .ok (.istore 5, 2) := by decide +kernel
theorem dX9_dayOf_60 : decode cX9_dayOf 60 = .ok (.aload_n 0, 1) := by decide +kernel
theorem dX9_dayOf_61 : decode cX9_dayOf 61 = .ok (.getfield 65, 3) := by decide +kernel
theorem dX9_dayOf_64 : decode cX9_dayOf 64 = .ok (.iload 5, 2) := by decide +kernel
theorem dX9_dayOf_66 : decode cX9_dayOf 66 = .ok (.invokestatic 220, 3) := by decide +kernel
theorem dX9_dayOf_69 : decode cX9_dayOf 69 = .ok (.invokevirtual 261, 3) := by decide +kernel
theorem dX9_dayOf_72 : decode cX9_dayOf 72 = .ok (.ireturn, 1) := by decide +kernel
theorem dX9_law_0 : decode cX9_law 0 = .ok (.iload_n 1, 1) := by decide +kernel
theorem dX9_law_1 : decode cX9_law 1 = .ok (.ifCond .lt 23, 3) := by decide +kernel
theorem dX9_law_4 : decode cX9_law 4 = .ok (.iload_n 2, 1) := by decide +kernel
theorem dX9_law_5 : decode cX9_law 5 = .ok (.ifCond .lt 19, 3) := by decide +kernel
theorem dX9_law_8 : decode cX9_law 8 = .ok (.iload_n 3, 1) := by decide +kernel
theorem dX9_law_9 : decode cX9_law 9 = .ok (.ifCond .lt 15, 3) := by decide +kernel
theorem dX9_law_12 : decode cX9_law 12 = .ok (.iload 4, 2) := by decide +kernel
theorem dX9_law_14 : decode cX9_law 14 = .ok (.aload_n 0, 1) := by decide +kernel
theorem dX9_law_15 : decode cX9_law 15 = .ok (.getfield 201, 3) := by decide +kernel
theorem dX9_law_18 : decode cX9_law 18 = .ok (.bipush 24, 2) := by decide +kernel
theorem dX9_law_20 : decode cX9_law 20 = .ok (.idiv, 1) := by decide +kernel
theorem dX9_law_21 : decode cX9_law 21 = .ok (.if_icmp .ge 10, 3) := by decide +kernel
theorem dX9_law_24 : decode cX9_law 24 = .ok (.aload_n 0, 1) := by decide +kernel
theorem dX9_law_25 : decode cX9_law 25 = .ok (.bipush (-4), 2) := by decide +kernel
theorem dX9_law_27 : decode cX9_law 27 = .ok (.invokevirtual 74, 3) := by decide +kernel
theorem dX9_law_30 : decode cX9_law 30 = .ok (.ireturn, 1) := by decide +kernel
theorem dX9_law_31 : decode cX9_law 31 = .ok (.iload_n 1, 1) := by decide +kernel
theorem dX9_law_32 : decode cX9_law 32 = .ok (.sipush 999, 3) := by decide +kernel
theorem dX9_law_35 : decode cX9_law 35 = .ok (.if_icmp .gt 15, 3) := by decide +kernel
theorem dX9_law_38 : decode cX9_law 38 = .ok (.iload_n 2, 1) := by decide +kernel
theorem dX9_law_39 : decode cX9_law 39 = .ok (.bipush 99, 2) := by decide +kernel
theorem dX9_law_41 : decode cX9_law 41 = .ok (.if_icmp .gt 9, 3) := by decide +kernel
theorem dX9_law_44 : decode cX9_law 44 = .ok (.iload_n 3, 1) := by decide +kernel
theorem dX9_law_45 : decode cX9_law 45 = .ok (.bipush 99, 2) := by decide +kernel
theorem dX9_law_47 : decode cX9_law 47 = .ok (.if_icmp .le 10, 3) := by decide +kernel
theorem dX9_law_50 : decode cX9_law 50 = .ok (.aload_n 0, 1) := by decide +kernel
theorem dX9_law_51 : decode cX9_law 51 = .ok (.bipush (-6), 2) := by decide +kernel
theorem dX9_law_53 : decode cX9_law 53 = .ok (.invokevirtual 74, 3) := by decide +kernel
theorem dX9_law_56 : decode cX9_law 56 = .ok (.ireturn, 1) := by decide +kernel
theorem dX9_law_57 : decode cX9_law 57 = .ok (.iload 4, 2) := by decide +kernel
theorem dX9_law_59 : decode cX9_law 59 = .ok (.sipush 300, 3) := by decide +kernel
theorem dX9_law_62 : decode cX9_law 62 = .ok (.if_icmp .gt 15, 3) := by decide +kernel
theorem dX9_law_65 : decode cX9_law 65 = .ok (.aload_n 0, 1) := by decide +kernel
theorem dX9_law_66 : decode cX9_law 66 = .ok (.getfield 22, 3) := by decide +kernel
theorem dX9_law_69 : decode cX9_law 69 = .ok (.invokevirtual 78, 3) := by decide +kernel
theorem dX9_law_72 : decode cX9_law 72 = .ok (.bipush 20, 2) := by decide +kernel
theorem dX9_law_74 : decode cX9_law 74 = .ok (.if_icmp .lt 10, 3) := by decide +kernel
theorem dX9_law_77 : decode cX9_law 77 = .ok (.aload_n 0, 1) := by decide +kernel
theorem dX9_law_78 : decode cX9_law 78 = .ok (.bipush (-6), 2) := by decide +kernel
theorem dX9_law_80 : decode cX9_law 80 = .ok (.invokevirtual 74, 3) := by decide +kernel
theorem dX9_law_83 : decode cX9_law 83 = .ok (.ireturn, 1) := by decide +kernel
theorem dX9_law_84 : decode cX9_law 84 = .ok (.aload_n 0, 1) := by decide +kernel
theorem dX9_law_85 : decode cX9_law 85 = .ok (.getfield 22, 3) := by decide +kernel
theorem dX9_law_88 : decode cX9_law 88 = .ok (.new 264, 3) := by decide +kernel
theorem dX9_law_91 : decode cX9_law 91 = .ok (.dup, 1) := by decide +kernel
theorem dX9_law_92 : decode cX9_law 92 = .ok (.iload_n 1, 1) := by decide +kernel
theorem dX9_law_93 : decode cX9_law 93 = .ok (.iload_n 2, 1) := by decide +kernel
theorem dX9_law_94 : decode cX9_law 94 = .ok (.iload_n 3, 1) := by decide +kernel
theorem dX9_law_95 : decode cX9_law 95 = .ok (.iload 4, 2) := by decide +kernel
theorem dX9_law_97 : decode cX9_law 97 = .ok (.invokespecial 266, 3) := by decide +kernel
theorem dX9_law_100 : decode cX9_law 100 = .ok (.invokevirtual 90, 3) := by decide +kernel
theorem dX9_law_103 : decode cX9_law 103 = .ok (.pop, 1) := by decide +kernel
theorem dX9_law_104 : decode cX9_law 104 = .ok (.aload_n 0, 1) := by decide +kernel
theorem dX9_law_105 : decode cX9_law 105 = .ok (.getfield 22, 3) := by decide +kernel
theorem dX9_law_108 : decode cX9_law 108 = .ok (.invokevirtual 78, 3) := by decide +kernel
theorem dX9_law_111 : decode cX9_law 111 = .ok (.iconst 1, 1) := by decide +kernel
theorem dX9_law_112 : decode cX9_law 112 = .ok (.isub, 1) := by decide +kernel
theorem dX9_law_113 : decode cX9_law 113 = .ok (.ireturn, 1) := by decide +kernel
theorem dX9_rate_0 : decode cX9_rate 0 = .ok (.aload_n 0, 1) := by decide +kernel
theorem dX9_rate_1 : decode cX9_rate 1 = .ok (.iload_n 1, 1) := by decide +kernel
theorem dX9_rate_2 : decode cX9_rate 2 = .ok (.invokevirtual 146, 3) := by decide +kernel
theorem dX9_rate_5 : decode cX9_rate 5 = .ok (.astore_n 3, 1) := by decide +kernel
theorem dX9_rate_6 : decode cX9_rate 6 = .ok (.aload_n 3, 1) := by decide +kernel
theorem dX9_rate_7 : decode cX9_rate 7 = .ok (.ifnonnull 9, 3) := by decide +kernel
theorem dX9_rate_10 : decode cX9_rate 10 = .ok (.aload_n 0, 1) := by decide +kernel
theorem dX9_rate_11 : decode cX9_rate 11 = .ok (.iconst (-1), 1) := by decide +kernel
theorem dX9_rate_12 : decode cX9_rate 12 = .ok (.invokevirtual 74, 3) := by decide +kernel
theorem dX9_rate_15 : decode cX9_rate 15 = .ok (.ireturn, 1) := by decide +kernel
theorem dX9_rate_16 : decode cX9_rate 16 = .ok (.iload_n 2, 1) := by decide +kernel
theorem dX9_rate_17 : decode cX9_rate 17 = .ok (.ifCond .ge 10, 3) := by decide +kernel
theorem dX9_rate_20 : decode cX9_rate 20 = .ok (.aload_n 0, 1) := by decide +kernel
theorem dX9_rate_21 : decode cX9_rate 21 = .ok (.bipush (-4), 2) := by decide +kernel
theorem dX9_rate_23 : decode cX9_rate 23 = .ok (.invokevirtual 74, 3) := by decide +kernel
theorem dX9_rate_26 : decode cX9_rate 26 = .ok (.ireturn, 1) := by decide +kernel
theorem dX9_rate_27 : decode cX9_rate 27 = .ok (.iload_n 2, 1) := by decide +kernel
theorem dX9_rate_28 : decode cX9_rate 28 = .ok (.sipush 300, 3) := by decide +kernel
theorem dX9_rate_31 : decode cX9_rate 31 = .ok (.if_icmp .le 10, 3) := by decide +kernel
theorem dX9_rate_34 : decode cX9_rate 34 = .ok (.aload_n 0, 1) := by decide +kernel
theorem dX9_rate_35 : decode cX9_rate 35 = .ok (.bipush (-6), 2) := by decide +kernel
theorem dX9_rate_37 : decode cX9_rate 37 = .ok (.invokevirtual 74, 3) := by decide +kernel
theorem dX9_rate_40 : decode cX9_rate 40 = .ok (.ireturn, 1) := by decide +kernel
theorem dX9_rate_41 : decode cX9_rate 41 = .ok (.aload_n 0, 1) := by decide +kernel
theorem dX9_rate_42 : decode cX9_rate 42 = .ok (.iload_n 2, 1) := by decide +kernel
theorem dX9_rate_43 : decode cX9_rate 43 = .ok (.invokevirtual 267, 3) := by decide +kernel
theorem dX9_rate_46 : decode cX9_rate 46 = .ok (.astore 4, 2) := by decide +kernel
theorem dX9_rate_48 : decode cX9_rate 48 = .ok (.aload 4, 2) := by decide +kernel
theorem dX9_rate_50 : decode cX9_rate 50 = .ok (.ifnonnull 7, 3) := by decide +kernel
theorem dX9_rate_53 : decode cX9_rate 53 = .ok (.iconst 0, 1) := by decide +kernel
theorem dX9_rate_54 : decode cX9_rate 54 = .ok (.goto 9, 3) := by decide +kernel
theorem dX9_rate_57 : decode cX9_rate 57 = .ok (.aload 4, 2) := by decide +kernel
theorem dX9_rate_59 : decode cX9_rate 59 = .ok (.aload_n 3, 1) := by decide +kernel
theorem dX9_rate_60 : decode cX9_rate 60 = .ok (.invokevirtual 271, 3) := by decide +kernel
theorem dX9_rate_63 : decode cX9_rate 63 = .ok (.ireturn, 1) := by decide +kernel
theorem dX9_houseOf_0 : decode cX9_houseOf 0 = .ok (.aload_n 0, 1) := by decide +kernel
theorem dX9_houseOf_1 : decode cX9_houseOf 1 = .ok (.iload_n 1, 1) := by decide +kernel
theorem dX9_houseOf_2 : decode cX9_houseOf 2 = .ok (.invokevirtual 146, 3) := by decide +kernel
theorem dX9_houseOf_5 : decode cX9_houseOf 5 = .ok (.astore_n 3, 1) := by decide +kernel
theorem dX9_houseOf_6 : decode cX9_houseOf 6 = .ok (.aload_n 3, 1) := by decide +kernel
theorem dX9_houseOf_7 : decode cX9_houseOf 7 = .ok (.ifnonnull 9, 3) := by decide +kernel
theorem dX9_houseOf_10 : decode cX9_houseOf 10 = .ok (.aload_n 0, 1) := by decide +kernel
theorem dX9_houseOf_11 : decode cX9_houseOf 11 = .ok (.iconst (-1), 1) := by decide +kernel
theorem dX9_houseOf_12 : decode cX9_houseOf 12 = .ok (.invokevirtual 74, 3) := by decide +kernel
theorem dX9_houseOf_15 : decode cX9_houseOf 15 = .ok (.ireturn, 1) := by decide +kernel
theorem dX9_houseOf_16 : decode cX9_houseOf 16 = .ok (.iload_n 2, 1) := by decide +kernel
theorem dX9_houseOf_17 : decode cX9_houseOf 17 = .ok (.tableswitch 52 0 3 #[31, 36, 41, 47], 31) := by decide +kernel
theorem dX9_houseOf_48 : decode cX9_houseOf 48 = .ok (.aload_n 3, 1) := by decide +kernel
theorem dX9_houseOf_49 : decode cX9_houseOf 49 = .ok (.getfield 275, 3) := by decide +kernel
theorem dX9_houseOf_52 : decode cX9_houseOf 52 = .ok (.ireturn, 1) := by decide +kernel
theorem dX9_houseOf_53 : decode cX9_houseOf 53 = .ok (.aload_n 3, 1) := by decide +kernel
theorem dX9_houseOf_54 : decode cX9_houseOf 54 = .ok (.getfield 278, 3) := by decide +kernel
theorem dX9_houseOf_57 : decode cX9_houseOf 57 = .ok (.ireturn, 1) := by decide +kernel
theorem dX9_houseOf_58 : decode cX9_houseOf 58 = .ok (.aload_n 0, 1) := by decide +kernel
theorem dX9_houseOf_59 : decode cX9_houseOf 59 = .ok (.aload_n 3, 1) := by decide +kernel
theorem dX9_houseOf_60 : decode cX9_houseOf 60 = .ok (.invokevirtual 281, 3) := by decide +kernel
theorem dX9_houseOf_63 : decode cX9_houseOf 63 = .ok (.ireturn, 1) := by decide +kernel
theorem dX9_houseOf_64 : decode cX9_houseOf 64 = .ok (.aload_n 3, 1) := by decide +kernel
theorem dX9_houseOf_65 : decode cX9_houseOf 65 = .ok (.getfield 284, 3) := by decide +kernel
theorem dX9_houseOf_68 : decode cX9_houseOf 68 = .ok (.ireturn, 1) := by decide +kernel
theorem dX9_houseOf_69 : decode cX9_houseOf 69 = .ok (.aload_n 0, 1) := by decide +kernel
theorem dX9_houseOf_70 : decode cX9_houseOf 70 = .ok (.bipush (-2), 2) := by decide +kernel
theorem dX9_houseOf_72 : decode cX9_houseOf 72 = .ok (.invokevirtual 74, 3) := by decide +kernel
theorem dX9_houseOf_75 : decode cX9_houseOf 75 = .ok (.ireturn, 1) := by decide +kernel
theorem dX9_streetOf_0 : decode cX9_streetOf 0 = .ok (.aload_n 0, 1) := by decide +kernel
theorem dX9_streetOf_1 : decode cX9_streetOf 1 = .ok (.iload_n 1, 1) := by decide +kernel
theorem dX9_streetOf_2 : decode cX9_streetOf 2 = .ok (.invokevirtual 105, 3) := by decide +kernel
theorem dX9_streetOf_5 : decode cX9_streetOf 5 = .ok (.astore_n 3, 1) := by decide +kernel
theorem dX9_streetOf_6 : decode cX9_streetOf 6 = .ok (.aload_n 3, 1) := by decide +kernel
theorem dX9_streetOf_7 : decode cX9_streetOf 7 = .ok (.ifnonnull 9, 3) := by decide +kernel
theorem dX9_streetOf_10 : decode cX9_streetOf 10 = .ok (.aload_n 0, 1) := by decide +kernel
theorem dX9_streetOf_11 : decode cX9_streetOf 11 = .ok (.iconst (-1), 1) := by decide +kernel
theorem dX9_streetOf_12 : decode cX9_streetOf 12 = .ok (.invokevirtual 74, 3) := by decide +kernel
theorem dX9_streetOf_15 : decode cX9_streetOf 15 = .ok (.ireturn, 1) := by decide +kernel
theorem dX9_streetOf_16 : decode cX9_streetOf 16 = .ok (.iload_n 2, 1) := by decide +kernel
theorem dX9_streetOf_17 : decode cX9_streetOf 17 = .ok (.tableswitch 111 0 6 #[43, 48, 53, 62, 75, 93, 106], 43) := by decide +kernel
theorem dX9_streetOf_60 : decode cX9_streetOf 60 = .ok (.aload_n 3, 1) := by decide +kernel
theorem dX9_streetOf_61 : decode cX9_streetOf 61 = .ok (.getfield 156, 3) := by decide +kernel
theorem dX9_streetOf_64 : decode cX9_streetOf 64 = .ok (.ireturn, 1) := by decide +kernel
theorem dX9_streetOf_65 : decode cX9_streetOf 65 = .ok (.aload_n 3, 1) := by decide +kernel
theorem dX9_streetOf_66 : decode cX9_streetOf 66 = .ok (.getfield 163, 3) := by decide +kernel
theorem dX9_streetOf_69 : decode cX9_streetOf 69 = .ok (.ireturn, 1) := by decide +kernel
theorem dX9_streetOf_70 : decode cX9_streetOf 70 = .ok (.aload_n 3, 1) := by decide +kernel
theorem dX9_streetOf_71 : decode cX9_streetOf 71 = .ok (.aload_n 0, 1) := by decide +kernel
theorem dX9_streetOf_72 : decode cX9_streetOf 72 = .ok (.invokevirtual 84, 3) := by decide +kernel
theorem dX9_streetOf_75 : decode cX9_streetOf 75 = .ok (.invokevirtual 287, 3) := by decide +kernel
theorem dX9_streetOf_78 : decode cX9_streetOf 78 = .ok (.ireturn, 1) := by decide +kernel
theorem dX9_streetOf_79 : decode cX9_streetOf 79 = .ok (.aload_n 3, 1) := by decide +kernel
theorem dX9_streetOf_80 : decode cX9_streetOf 80 = .ok (.getfield 207, 3) := by decide +kernel
theorem dX9_streetOf_83 : decode cX9_streetOf 83 = .ok (.ifCond .eq 7, 3) := by decide +kernel
theorem dX9_streetOf_86 : decode cX9_streetOf 86 = .ok (.iconst 1, 1) := by decide +kernel
theorem dX9_streetOf_87 : decode cX9_streetOf 87 = .ok (.goto 4, 3) := by decide +kernel
theorem dX9_streetOf_90 : decode cX9_streetOf 90 = .ok (.iconst 0, 1) := by decide +kernel
theorem dX9_streetOf_91 : decode cX9_streetOf 91 = .ok (.ireturn, 1) := by decide +kernel
theorem dX9_streetOf_92 : decode cX9_streetOf 92 = .ok (.aload_n 3, 1) := by decide +kernel
theorem dX9_streetOf_93 : decode cX9_streetOf 93 = .ok (.getfield 290, 3) := by decide +kernel
theorem dX9_streetOf_96 : decode cX9_streetOf 96 = .ok (.iconst (-1), 1) := by decide +kernel
theorem dX9_streetOf_97 : decode cX9_streetOf 97 = .ok (.if_icmp .ne 8, 3) := by decide +kernel
theorem dX9_streetOf_100 : decode cX9_streetOf 100 = .ok (.bipush (-9), 2) := by decide +kernel
theorem dX9_streetOf_102 : decode cX9_streetOf 102 = .ok (.goto 7, 3) := by decide +kernel
theorem dX9_streetOf_105 : decode cX9_streetOf 105 = .ok (.aload_n 3, 1) := by decide +kernel
theorem dX9_streetOf_106 : decode cX9_streetOf 106 = .ok (.getfield 290, 3) := by decide +kernel
theorem dX9_streetOf_109 : decode cX9_streetOf 109 = .ok (.ireturn, 1) := by decide +kernel
theorem dX9_streetOf_110 : decode cX9_streetOf 110 = .ok (.aload_n 3, 1) := by decide +kernel
theorem dX9_streetOf_111 : decode cX9_streetOf 111 = .ok (.getfield 166, 3) := by decide +kernel
theorem dX9_streetOf_114 : decode cX9_streetOf 114 = .ok (.ifCond .eq 7, 3) := by decide +kernel
theorem dX9_streetOf_117 : decode cX9_streetOf 117 = .ok (.iconst 1, 1) := by decide +kernel
theorem dX9_streetOf_118 : decode cX9_streetOf 118 = .ok (.goto 4, 3) := by decide +kernel
theorem dX9_streetOf_121 : decode cX9_streetOf 121 = .ok (.iconst 0, 1) := by decide +kernel
theorem dX9_streetOf_122 : decode cX9_streetOf 122 = .ok (.ireturn, 1) := by decide +kernel
theorem dX9_streetOf_123 : decode cX9_streetOf 123 = .ok (.aload_n 3, 1) := by decide +kernel
theorem dX9_streetOf_124 : decode cX9_streetOf 124 = .ok (.invokevirtual 293, 3) := by decide +kernel
theorem dX9_streetOf_127 : decode cX9_streetOf 127 = .ok (.ireturn, 1) := by decide +kernel
theorem dX9_streetOf_128 : decode cX9_streetOf 128 = .ok (.aload_n 0, 1) := by decide +kernel
theorem dX9_streetOf_129 : decode cX9_streetOf 129 = .ok (.bipush (-2), 2) := by decide +kernel
theorem dX9_streetOf_131 : decode cX9_streetOf 131 = .ok (.invokevirtual 74, 3) := by decide +kernel
theorem dX9_streetOf_134 : decode cX9_streetOf 134 = .ok (.ireturn, 1) := by decide +kernel
theorem dX9_count_0 : decode cX9_count 0 = .ok (.iload_n 1, 1) := by decide +kernel
theorem dX9_count_1 : decode cX9_count 1 = .ok (.tableswitch 190 0 19 #[95, 100, 108, 116, 121, 129, 137, 145, 153, 161, 166, 190, 190, 190, 190, 190, 190, 190, 174, 182], 95) := by decide +kernel
theorem dX9_count_96 : decode cX9_count 96 = .ok (.aload_n 0, 1) := by decide +kernel
theorem dX9_count_97 : decode cX9_count 97 = .ok (.getfield 201, 3) := by decide +kernel
theorem dX9_count_100 : decode cX9_count 100 = .ok (.ireturn, 1) := by decide +kernel
theorem dX9_count_101 : decode cX9_count 101 = .ok (.aload_n 0, 1) := by decide +kernel
theorem dX9_count_102 : decode cX9_count 102 = .ok (.getfield 10, 3) := by decide +kernel
theorem dX9_count_105 : decode cX9_count 105 = .ok (.invokevirtual 78, 3) := by decide +kernel
theorem dX9_count_108 : decode cX9_count 108 = .ok (.ireturn, 1) := by decide +kernel
theorem dX9_count_109 : decode cX9_count 109 = .ok (.aload_n 0, 1) := by decide +kernel
theorem dX9_count_110 : decode cX9_count 110 = .ok (.getfield 16, 3) := by decide +kernel
theorem dX9_count_113 : decode cX9_count 113 = .ok (.invokevirtual 78, 3) := by decide +kernel
theorem dX9_count_116 : decode cX9_count 116 = .ok (.ireturn, 1) := by decide +kernel
theorem dX9_count_117 : decode cX9_count 117 = .ok (.aload_n 0, 1) := by decide +kernel
theorem dX9_count_118 : decode cX9_count 118 = .ok (.getfield 101, 3) := by decide +kernel
theorem dX9_count_121 : decode cX9_count 121 = .ok (.ireturn, 1) := by decide +kernel
theorem dX9_count_122 : decode cX9_count 122 = .ok (.aload_n 0, 1) := by decide +kernel
theorem dX9_count_123 : decode cX9_count 123 = .ok (.getfield 51, 3) := by decide +kernel
theorem dX9_count_126 : decode cX9_count 126 = .ok (.getfield 296, 3) := by decide +kernel
theorem dX9_count_129 : decode cX9_count 129 = .ok (.ireturn, 1) := by decide +kernel
theorem dX9_count_130 : decode cX9_count 130 = .ok (.aload_n 0, 1) := by decide +kernel
theorem dX9_count_131 : decode cX9_count 131 = .ok (.getfield 51, 3) := by decide +kernel
theorem dX9_count_134 : decode cX9_count 134 = .ok (.getfield 299, 3) := by decide +kernel
theorem dX9_count_137 : decode cX9_count 137 = .ok (.ireturn, 1) := by decide +kernel
theorem dX9_count_138 : decode cX9_count 138 = .ok (.aload_n 0, 1) := by decide +kernel
theorem dX9_count_139 : decode cX9_count 139 = .ok (.getfield 51, 3) := by decide +kernel
theorem dX9_count_142 : decode cX9_count 142 = .ok (.getfield 302, 3) := by decide +kernel
theorem dX9_count_145 : decode cX9_count 145 = .ok (.ireturn, 1) := by decide +kernel
theorem dX9_count_146 : decode cX9_count 146 = .ok (.aload_n 0, 1) := by decide +kernel
theorem dX9_count_147 : decode cX9_count 147 = .ok (.getfield 51, 3) := by decide +kernel
theorem dX9_count_150 : decode cX9_count 150 = .ok (.getfield 305, 3) := by decide +kernel
theorem dX9_count_153 : decode cX9_count 153 = .ok (.ireturn, 1) := by decide +kernel
theorem dX9_count_154 : decode cX9_count 154 = .ok (.aload_n 0, 1) := by decide +kernel
theorem dX9_count_155 : decode cX9_count 155 = .ok (.getfield 19, 3) := by decide +kernel
theorem dX9_count_158 : decode cX9_count 158 = .ok (.invokevirtual 78, 3) := by decide +kernel
theorem dX9_count_161 : decode cX9_count 161 = .ok (.ireturn, 1) := by decide +kernel
theorem dX9_count_162 : decode cX9_count 162 = .ok (.aload_n 0, 1) := by decide +kernel
theorem dX9_count_163 : decode cX9_count 163 = .ok (.getfield 231, 3) := by decide +kernel
theorem dX9_count_166 : decode cX9_count 166 = .ok (.ireturn, 1) := by decide +kernel
theorem dX9_count_167 : decode cX9_count 167 = .ok (.aload_n 0, 1) := by decide +kernel
theorem dX9_count_168 : decode cX9_count 168 = .ok (.getfield 22, 3) := by decide +kernel
theorem dX9_count_171 : decode cX9_count 171 = .ok (.invokevirtual 78, 3) := by decide +kernel
theorem dX9_count_174 : decode cX9_count 174 = .ok (.ireturn, 1) := by decide +kernel
theorem dX9_count_175 : decode cX9_count 175 = .ok (.aload_n 0, 1) := by decide +kernel
theorem dX9_count_176 : decode cX9_count 176 = .ok (.getfield 51, 3) := by decide +kernel
theorem dX9_count_179 : decode cX9_count 179 = .ok (.getfield 308, 3) := by decide +kernel
theorem dX9_count_182 : decode cX9_count 182 = .ok (.ireturn, 1) := by decide +kernel
theorem dX9_count_183 : decode cX9_count 183 = .ok (.aload_n 0, 1) := by decide +kernel
theorem dX9_count_184 : decode cX9_count 184 = .ok (.getfield 51, 3) := by decide +kernel
theorem dX9_count_187 : decode cX9_count 187 = .ok (.getfield 311, 3) := by decide +kernel
theorem dX9_count_190 : decode cX9_count 190 = .ok (.ireturn, 1) := by decide +kernel
theorem dX9_count_191 : decode cX9_count 191 = .ok (.iload_n 1, 1) := by decide +kernel
theorem dX9_count_192 : decode cX9_count 192 = .ok (.bipush 11, 2) := by decide +kernel
theorem dX9_count_194 : decode cX9_count 194 = .ok (.if_icmp .lt 21, 3) := by decide +kernel
theorem dX9_count_197 : decode cX9_count 197 = .ok (.iload_n 1, 1) := by decide +kernel
theorem dX9_count_198 : decode cX9_count 198 = .ok (.bipush 17, 2) := by decide +kernel
theorem dX9_count_200 : decode cX9_count 200 = .ok (.if_icmp .gt 15, 3) := by decide +kernel
theorem dX9_count_203 : decode cX9_count 203 = .ok (.aload_n 0, 1) := by decide +kernel
theorem dX9_count_204 : decode cX9_count 204 = .ok (.getfield 38, 3) := by decide +kernel
theorem dX9_count_207 : decode cX9_count 207 = .ok (.iload_n 1, 1) := by decide +kernel
theorem dX9_count_208 : decode cX9_count 208 = .ok (.bipush 10, 2) := by decide +kernel
theorem dX9_count_210 : decode cX9_count 210 = .ok (.isub, 1) := by decide +kernel
theorem dX9_count_211 : decode cX9_count 211 = .ok (.iaload, 1) := by decide +kernel
theorem dX9_count_212 : decode cX9_count 212 = .ok (.goto 5, 3) := by decide +kernel
theorem dX9_count_215 : decode cX9_count 215 = .ok (.bipush (-9), 2) := by decide +kernel
theorem dX9_count_217 : decode cX9_count 217 = .ok (.ireturn, 1) := by decide +kernel
theorem dX9_refuse_0 : decode cX9_refuse 0 = .ok (.iload_n 1, 1) := by decide +kernel
theorem dX9_refuse_1 : decode cX9_refuse 1 = .ok (.bipush (-7), 2) := by decide +kernel
theorem dX9_refuse_3 : decode cX9_refuse 3 = .ok (.if_icmp .lt 19, 3) := by decide +kernel
theorem dX9_refuse_6 : decode cX9_refuse 6 = .ok (.iload_n 1, 1) := by decide +kernel
theorem dX9_refuse_7 : decode cX9_refuse 7 = .ok (.iconst (-1), 1) := by decide +kernel
theorem dX9_refuse_8 : decode cX9_refuse 8 = .ok (.if_icmp .gt 14, 3) := by decide +kernel
theorem dX9_refuse_11 : decode cX9_refuse 11 = .ok (.aload_n 0, 1) := by decide +kernel
theorem dX9_refuse_12 : decode cX9_refuse 12 = .ok (.getfield 38, 3) := by decide +kernel
theorem dX9_refuse_15 : decode cX9_refuse 15 = .ok (.iload_n 1, 1) := by decide +kernel
theorem dX9_refuse_16 : decode cX9_refuse 16 = .ok (.ineg, 1) := by decide +kernel
theorem dX9_refuse_17 : decode cX9_refuse 17 = .ok (.dup2, 1) := by decide +kernel
theorem dX9_refuse_18 : decode cX9_refuse 18 = .ok (.iaload, 1) := by decide +kernel
theorem dX9_refuse_19 : decode cX9_refuse 19 = .ok (.iconst 1, 1) := by decide +kernel
theorem dX9_refuse_20 : decode cX9_refuse 20 = .ok (.iadd, 1) := by decide +kernel
theorem dX9_refuse_21 : decode cX9_refuse 21 = .ok (.iastore, 1) := by decide +kernel
theorem dX9_refuse_22 : decode cX9_refuse 22 = .ok (.iload_n 1, 1) := by decide +kernel
theorem dX9_refuse_23 : decode cX9_refuse 23 = .ok (.ireturn, 1) := by decide +kernel
theorem dX9_refuseAside_0 : decode cX9_refuseAside 0 = .ok (.ldc_w 314, 3) := by decide +kernel
theorem dX9_refuseAside_3 : decode cX9_refuseAside 3 = .ok (.aload_n 0, 1) := by decide +kernel
theorem dX9_refuseAside_4 : decode cX9_refuseAside 4 = .ok (.iload_n 1, 1) := by decide +kernel
theorem dX9_refuseAside_5 : decode cX9_refuseAside 5 = .ok (.invokevirtual 74, 3) := by decide +kernel
theorem dX9_refuseAside_8 : decode cX9_refuseAside 8 = .ok (.isub, 1) := by decide +kernel
theorem dX9_refuseAside_9 : decode cX9_refuseAside 9 = .ok (.ireturn, 1) := by decide +kernel
theorem dX9_streetAt_0 : decode cX9_streetAt 0 = .ok (.iload_n 1, 1) := by decide +kernel
theorem dX9_streetAt_1 : decode cX9_streetAt 1 = .ok (.ifCond .lt 28, 3) := by decide +kernel
theorem dX9_streetAt_4 : decode cX9_streetAt 4 = .ok (.iload_n 1, 1) := by decide +kernel
theorem dX9_streetAt_5 : decode cX9_streetAt 5 = .ok (.aload_n 0, 1) := by decide +kernel
theorem dX9_streetAt_6 : decode cX9_streetAt 6 = .ok (.getfield 10, 3) := by decide +kernel
theorem dX9_streetAt_9 : decode cX9_streetAt 9 = .ok (.invokevirtual 78, 3) := by decide +kernel
theorem dX9_streetAt_12 : decode cX9_streetAt 12 = .ok (.if_icmp .ge 17, 3) := by decide +kernel
theorem dX9_streetAt_15 : decode cX9_streetAt 15 = .ok (.aload_n 0, 1) := by decide +kernel
theorem dX9_streetAt_16 : decode cX9_streetAt 16 = .ok (.getfield 10, 3) := by decide +kernel
theorem dX9_streetAt_19 : decode cX9_streetAt 19 = .ok (.iload_n 1, 1) := by decide +kernel
theorem dX9_streetAt_20 : decode cX9_streetAt 20 = .ok (.invokevirtual 190, 3) := by decide +kernel
theorem dX9_streetAt_23 : decode cX9_streetAt 23 = .ok (.checkcast 82, 3) := by decide +kernel
theorem dX9_streetAt_26 : decode cX9_streetAt 26 = .ok (.goto 4, 3) := by decide +kernel
theorem dX9_streetAt_29 : decode cX9_streetAt 29 = .ok (.aconst_null, 1) := by decide +kernel
theorem dX9_streetAt_30 : decode cX9_streetAt 30 = .ok (.areturn, 1) := by decide +kernel
theorem dX9_houseAt_0 : decode cX9_houseAt 0 = .ok (.iload_n 1, 1) := by decide +kernel
theorem dX9_houseAt_1 : decode cX9_houseAt 1 = .ok (.ifCond .lt 28, 3) := by decide +kernel
theorem dX9_houseAt_4 : decode cX9_houseAt 4 = .ok (.iload_n 1, 1) := by decide +kernel
theorem dX9_houseAt_5 : decode cX9_houseAt 5 = .ok (.aload_n 0, 1) := by decide +kernel
theorem dX9_houseAt_6 : decode cX9_houseAt 6 = .ok (.getfield 16, 3) := by decide +kernel
theorem dX9_houseAt_9 : decode cX9_houseAt 9 = .ok (.invokevirtual 78, 3) := by decide +kernel
theorem dX9_houseAt_12 : decode cX9_houseAt 12 = .ok (.if_icmp .ge 17, 3) := by decide +kernel
theorem dX9_houseAt_15 : decode cX9_houseAt 15 = .ok (.aload_n 0, 1) := by decide +kernel
theorem dX9_houseAt_16 : decode cX9_houseAt 16 = .ok (.getfield 16, 3) := by decide +kernel
theorem dX9_houseAt_19 : decode cX9_houseAt 19 = .ok (.iload_n 1, 1) := by decide +kernel
theorem dX9_houseAt_20 : decode cX9_houseAt 20 = .ok (.invokevirtual 190, 3) := by decide +kernel
theorem dX9_houseAt_23 : decode cX9_houseAt 23 = .ok (.checkcast 109, 3) := by decide +kernel
theorem dX9_houseAt_26 : decode cX9_houseAt 26 = .ok (.goto 4, 3) := by decide +kernel
theorem dX9_houseAt_29 : decode cX9_houseAt 29 = .ok (.aconst_null, 1) := by decide +kernel
theorem dX9_houseAt_30 : decode cX9_houseAt 30 = .ok (.areturn, 1) := by decide +kernel
theorem dX9_rowAt_0 : decode cX9_rowAt 0 = .ok (.iload_n 1, 1) := by decide +kernel
theorem dX9_rowAt_1 : decode cX9_rowAt 1 = .ok (.ifCond .lt 17, 3) := by decide +kernel
theorem dX9_rowAt_4 : decode cX9_rowAt 4 = .ok (.iload_n 1, 1) := by decide +kernel
theorem dX9_rowAt_5 : decode cX9_rowAt 5 = .ok (.iconst 4, 1) := by decide +kernel
theorem dX9_rowAt_6 : decode cX9_rowAt 6 = .ok (.if_icmp .ge 12, 3) := by decide +kernel
theorem dX9_rowAt_9 : decode cX9_rowAt 9 = .ok (.aload_n 0, 1) := by decide +kernel
theorem dX9_rowAt_10 : decode cX9_rowAt 10 = .ok (.getfield 27, 3) := by decide +kernel
theorem dX9_rowAt_13 : decode cX9_rowAt 13 = .ok (.iload_n 1, 1) := by decide +kernel
theorem dX9_rowAt_14 : decode cX9_rowAt 14 = .ok (.aaload, 1) := by decide +kernel
theorem dX9_rowAt_15 : decode cX9_rowAt 15 = .ok (.goto 4, 3) := by decide +kernel
theorem dX9_rowAt_18 : decode cX9_rowAt 18 = .ok (.aconst_null, 1) := by decide +kernel
theorem dX9_rowAt_19 : decode cX9_rowAt 19 = .ok (.areturn, 1) := by decide +kernel
theorem dX9_isCock_0 : decode cX9_isCock 0 = .ok (.iload_n 0, 1) := by decide +kernel
theorem dX9_isCock_1 : decode cX9_isCock 1 = .ok (.ifCond .lt 12, 3) := by decide +kernel
theorem dX9_isCock_4 : decode cX9_isCock 4 = .ok (.iload_n 0, 1) := by decide +kernel
theorem dX9_isCock_5 : decode cX9_isCock 5 = .ok (.iconst 3, 1) := by decide +kernel
theorem dX9_isCock_6 : decode cX9_isCock 6 = .ok (.if_icmp .ge 7, 3) := by decide +kernel
theorem dX9_isCock_9 : decode cX9_isCock 9 = .ok (.iconst 1, 1) := by decide +kernel
theorem dX9_isCock_10 : decode cX9_isCock 10 = .ok (.goto 4, 3) := by decide +kernel
theorem dX9_isCock_13 : decode cX9_isCock 13 = .ok (.iconst 0, 1) := by decide +kernel
theorem dX9_isCock_14 : decode cX9_isCock 14 = .ok (.ireturn, 1) := by decide +kernel
theorem dX9_isPlace_0 : decode cX9_isPlace 0 = .ok (.iload_n 1, 1) := by decide +kernel
theorem dX9_isPlace_1 : decode cX9_isPlace 1 = .ok (.iconst (-1), 1) := by decide +kernel
theorem dX9_isPlace_2 : decode cX9_isPlace 2 = .ok (.if_icmp .eq 11, 3) := by decide +kernel
theorem dX9_isPlace_5 : decode cX9_isPlace 5 = .ok (.aload_n 0, 1) := by decide +kernel
theorem dX9_isPlace_6 : decode cX9_isPlace 6 = .ok (.iload_n 1, 1) := by decide +kernel
theorem dX9_isPlace_7 : decode cX9_isPlace 7 = .ok (.invokevirtual 105, 3) := by decide +kernel
theorem dX9_isPlace_10 : decode cX9_isPlace 10 = .ok (.ifnull 7, 3) := by decide +kernel
theorem dX9_isPlace_13 : decode cX9_isPlace 13 = .ok (.iconst 1, 1) := by decide +kernel
theorem dX9_isPlace_14 : decode cX9_isPlace 14 = .ok (.goto 4, 3) := by decide +kernel
theorem dX9_isPlace_17 : decode cX9_isPlace 17 = .ok (.iconst 0, 1) := by decide +kernel
theorem dX9_isPlace_18 : decode cX9_isPlace 18 = .ok (.ireturn, 1) := by decide +kernel
theorem dX9_weekNow_0 : decode cX9_weekNow 0 = .ok (.aload_n 0, 1) := by decide +kernel
theorem dX9_weekNow_1 : decode cX9_weekNow 1 = .ok (.getfield 201, 3) := by decide +kernel
theorem dX9_weekNow_4 : decode cX9_weekNow 4 = .ok (.sipush 168, 3) := by decide +kernel
theorem dX9_weekNow_7 : decode cX9_weekNow 7 = .ok (.idiv, 1) := by decide +kernel
theorem dX9_weekNow_8 : decode cX9_weekNow 8 = .ok (.ireturn, 1) := by decide +kernel
theorem dX9_hasStreet_0 : decode cX9_hasStreet 0 = .ok (.iload_n 0, 1) := by decide +kernel
theorem dX9_hasStreet_1 : decode cX9_hasStreet 1 = .ok (.iload_n 1, 1) := by decide +kernel
theorem dX9_hasStreet_2 : decode cX9_hasStreet 2 = .ok (.ishr, 1) := by decide +kernel
theorem dX9_hasStreet_3 : decode cX9_hasStreet 3 = .ok (.iconst 1, 1) := by decide +kernel
theorem dX9_hasStreet_4 : decode cX9_hasStreet 4 = .ok (.iand, 1) := by decide +kernel
theorem dX9_hasStreet_5 : decode cX9_hasStreet 5 = .ok (.ifCond .eq 7, 3) := by decide +kernel
theorem dX9_hasStreet_8 : decode cX9_hasStreet 8 = .ok (.iconst 1, 1) := by decide +kernel
theorem dX9_hasStreet_9 : decode cX9_hasStreet 9 = .ok (.goto 4, 3) := by decide +kernel
theorem dX9_hasStreet_12 : decode cX9_hasStreet 12 = .ok (.iconst 0, 1) := by decide +kernel
theorem dX9_hasStreet_13 : decode cX9_hasStreet 13 = .ok (.ireturn, 1) := by decide +kernel
theorem dX9_passHour_0 : decode cX9_passHour 0 = .ok (.aload_n 0, 1) := by decide +kernel
theorem dX9_passHour_1 : decode cX9_passHour 1 = .ok (.getfield 44, 3) := by decide +kernel
theorem dX9_passHour_4 : decode cX9_passHour 4 = .ok (.aload_n 0, 1) := by decide +kernel
theorem dX9_passHour_5 : decode cX9_passHour 5 = .ok (.getfield 201, 3) := by decide +kernel
theorem dX9_passHour_8 : decode cX9_passHour 8 = .ok (.invokevirtual 184, 3) := by decide +kernel
theorem dX9_passHour_11 : decode cX9_passHour 11 = .ok (.istore_n 1, 1) := by decide +kernel
theorem dX9_passHour_12 : decode cX9_passHour 12 = .ok (.iload_n 1, 1) := by decide +kernel
theorem dX9_passHour_13 : decode cX9_passHour 13 = .ok (.ifCond .eq 10, 3) := by decide +kernel
theorem dX9_passHour_16 : decode cX9_passHour 16 = .ok (.aload_n 0, 1) := by decide +kernel
theorem dX9_passHour_17 : decode cX9_passHour 17 = .ok (.invokevirtual 315, 3) := by decide +kernel
theorem dX9_passHour_20 : decode cX9_passHour 20 = .ok (.goto 4, 3) := by decide +kernel
theorem dX9_passHour_23 : decode cX9_passHour 23 = .ok (.iconst 0, 1) := by decide +kernel
theorem dX9_passHour_24 : decode cX9_passHour 24 = .ok (.istore_n 2, 1) := by decide +kernel
theorem dX9_passHour_25 : decode cX9_passHour 25 = .ok (.aload_n 0, 1) := by decide +kernel
theorem dX9_passHour_26 : decode cX9_passHour 26 = .ok (.iload_n 1, 1) := by decide +kernel
theorem dX9_passHour_27 : decode cX9_passHour 27 = .ok (.iload_n 2, 1) := by decide +kernel
theorem dX9_passHour_28 : decode cX9_passHour 28 = .ok (.invokevirtual 318, 3) := by decide +kernel
theorem dX9_passHour_31 : decode cX9_passHour 31 = .ok (.istore_n 2, 1) := by decide +kernel
theorem dX9_passHour_32 : decode cX9_passHour 32 = .ok (.aload_n 0, 1) := by decide +kernel
theorem dX9_passHour_33 : decode cX9_passHour 33 = .ok (.iload_n 1, 1) := by decide +kernel
theorem dX9_passHour_34 : decode cX9_passHour 34 = .ok (.iload_n 2, 1) := by decide +kernel
theorem dX9_passHour_35 : decode cX9_passHour 35 = .ok (.invokevirtual 321, 3) := by decide +kernel
theorem dX9_passHour_38 : decode cX9_passHour 38 = .ok (.istore_n 2, 1) := by decide +kernel
theorem dX9_passHour_39 : decode cX9_passHour 39 = .ok (.aload_n 0, 1) := by decide +kernel
theorem dX9_passHour_40 : decode cX9_passHour 40 = .ok (.getfield 51, 3) := by decide +kernel
theorem dX9_passHour_43 : decode cX9_passHour 43 = .ok (.dup, 1) := by decide +kernel
theorem dX9_passHour_44 : decode cX9_passHour 44 = .ok (.getfield 305, 3) := by decide +kernel
theorem dX9_passHour_47 : decode cX9_passHour 47 = .ok (.iload_n 2, 1) := by decide +kernel
theorem dX9_passHour_48 : decode cX9_passHour 48 = .ok (.iadd, 1) := by decide +kernel
theorem dX9_passHour_49 : decode cX9_passHour 49 = .ok (.putfield 305, 3) := by decide +kernel
theorem dX9_passHour_52 : decode cX9_passHour 52 = .ok (.aload_n 0, 1) := by decide +kernel
theorem dX9_passHour_53 : decode cX9_passHour 53 = .ok (.invokevirtual 324, 3) := by decide +kernel
theorem dX9_passHour_56 : decode cX9_passHour 56 = .ok (.aload_n 0, 1) := by decide +kernel
theorem dX9_passHour_57 : decode cX9_passHour 57 = .ok (.dup, 1) := by decide +kernel
theorem dX9_passHour_58 : decode cX9_passHour 58 = .ok (.getfield 201, 3) := by decide +kernel
theorem dX9_passHour_61 : decode cX9_passHour 61 = .ok (.iconst 1, 1) := by decide +kernel
theorem dX9_passHour_62 : decode cX9_passHour 62 = .ok (.iadd, 1) := by decide +kernel
theorem dX9_passHour_63 : decode cX9_passHour 63 = .ok (.putfield 201, 3) := by decide +kernel
theorem dX9_passHour_66 : decode cX9_passHour 66 = .ok (.return_, 1) := by decide +kernel
theorem dX9_pump_0 : decode cX9_pump 0 = .ok (.aload_n 0, 1) := by decide +kernel
theorem dX9_pump_1 : decode cX9_pump 1 = .ok (.getfield 101, 3) := by decide +kernel
theorem dX9_pump_4 : decode cX9_pump 4 = .ok (.aload_n 0, 1) := by decide +kernel
theorem dX9_pump_5 : decode cX9_pump 5 = .ok (.getfield 35, 3) := by decide +kernel
theorem dX9_pump_8 : decode cX9_pump 8 = .ok (.iconst 1, 1) := by decide +kernel
theorem dX9_pump_9 : decode cX9_pump 9 = .ok (.iaload, 1) := by decide +kernel
theorem dX9_pump_10 : decode cX9_pump 10 = .ok (.if_icmp .ge 5, 3) := by decide +kernel
theorem dX9_pump_13 : decode cX9_pump 13 = .ok (.iconst 0, 1) := by decide +kernel
theorem dX9_pump_14 : decode cX9_pump 14 = .ok (.ireturn, 1) := by decide +kernel
theorem dX9_pump_15 : decode cX9_pump 15 = .ok (.aload_n 0, 1) := by decide +kernel
theorem dX9_pump_16 : decode cX9_pump 16 = .ok (.dup, 1) := by decide +kernel
theorem dX9_pump_17 : decode cX9_pump 17 = .ok (.getfield 101, 3) := by decide +kernel
theorem dX9_pump_20 : decode cX9_pump 20 = .ok (.aload_n 0, 1) := by decide +kernel
theorem dX9_pump_21 : decode cX9_pump 21 = .ok (.getfield 35, 3) := by decide +kernel
theorem dX9_pump_24 : decode cX9_pump 24 = .ok (.iconst 1, 1) := by decide +kernel
theorem dX9_pump_25 : decode cX9_pump 25 = .ok (.iaload, 1) := by decide +kernel
theorem dX9_pump_26 : decode cX9_pump 26 = .ok (.isub, 1) := by decide +kernel
theorem dX9_pump_27 : decode cX9_pump 27 = .ok (.putfield 101, 3) := by decide +kernel
theorem dX9_pump_30 : decode cX9_pump 30 = .ok (.aload_n 0, 1) := by decide +kernel
theorem dX9_pump_31 : decode cX9_pump 31 = .ok (.getfield 51, 3) := by decide +kernel
theorem dX9_pump_34 : decode cX9_pump 34 = .ok (.dup, 1) := by decide +kernel
theorem dX9_pump_35 : decode cX9_pump 35 = .ok (.getfield 308, 3) := by decide +kernel
theorem dX9_pump_38 : decode cX9_pump 38 = .ok (.iconst 1, 1) := by decide +kernel
theorem dX9_pump_39 : decode cX9_pump 39 = .ok (.iadd, 1) := by decide +kernel
theorem dX9_pump_40 : decode cX9_pump 40 = .ok (.putfield 308, 3) := by decide +kernel
theorem dX9_pump_43 : decode cX9_pump 43 = .ok (.aload_n 0, 1) := by decide +kernel
theorem dX9_pump_44 : decode cX9_pump 44 = .ok (.getfield 35, 3) := by decide +kernel
theorem dX9_pump_47 : decode cX9_pump 47 = .ok (.iconst 0, 1) := by decide +kernel
theorem dX9_pump_48 : decode cX9_pump 48 = .ok (.iaload, 1) := by decide +kernel
theorem dX9_pump_49 : decode cX9_pump 49 = .ok (.ireturn, 1) := by decide +kernel
theorem dX9_leak_0 : decode cX9_leak 0 = .ok (.iload_n 2, 1) := by decide +kernel
theorem dX9_leak_1 : decode cX9_leak 1 = .ok (.istore_n 3, 1) := by decide +kernel
theorem dX9_leak_2 : decode cX9_leak 2 = .ok (.iconst 0, 1) := by decide +kernel
theorem dX9_leak_3 : decode cX9_leak 3 = .ok (.istore 4, 2) := by decide +kernel
theorem dX9_leak_5 : decode cX9_leak 5 = .ok (.iload 4, 2) := by decide +kernel
theorem dX9_leak_7 : decode cX9_leak 7 = .ok (.aload_n 0, 1) := by decide +kernel
theorem dX9_leak_8 : decode cX9_leak 8 = .ok (.getfield 10, 3) := by decide +kernel
theorem dX9_leak_11 : decode cX9_leak 11 = .ok (.invokevirtual 78, 3) := by decide +kernel
theorem dX9_leak_14 : decode cX9_leak 14 = .ok (.if_icmp .ge 65, 3) := by decide +kernel
theorem dX9_leak_17 : decode cX9_leak 17 = .ok (.iload_n 1, 1) := by decide +kernel

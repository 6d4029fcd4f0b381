theorem dX9_leak_18 : decode cX9_leak 18 = .ok (.iload 4, 2) := by decide +kernel
theorem dX9_leak_20 : decode cX9_leak 20 = .ok (.invokestatic 187, 3) := by decide +kernel
theorem dX9_leak_23 : decode cX9_leak 23 = .ok (.ifCond .ne 6, 3) := by decide +kernel
theorem dX9_leak_26 : decode cX9_leak 26 = .ok (.goto 47, 3) := by decide +kernel
theorem dX9_leak_29 : decode cX9_leak 29 = .ok (.iload_n 3, 1) := by decide +kernel
theorem dX9_leak_30 : decode cX9_leak 30 = .ok (.aload_n 0, 1) := by decide +kernel
theorem dX9_leak_31 : decode cX9_leak 31 = .ok (.getfield 10, 3) := by decide +kernel
theorem dX9_leak_34 : decode cX9_leak 34 = .ok (.iload 4, 2) := by decide +kernel
theorem dX9_leak_36 : decode cX9_leak 36 = .ok (.invokevirtual 190, 3) := by decide +kernel
theorem dX9_leak_39 : decode cX9_leak 39 = .ok (.checkcast 82, 3) := by decide +kernel
theorem dX9_leak_42 : decode cX9_leak 42 = .ok (.aload_n 0, 1) := by decide +kernel
theorem dX9_leak_43 : decode cX9_leak 43 = .ok (.invokevirtual 84, 3) := by decide +kernel
theorem dX9_leak_46 : decode cX9_leak 46 = .ok (.invokevirtual 287, 3) := by decide +kernel
theorem dX9_leak_49 : decode cX9_leak 49 = .ok (.invokestatic 327, 3) := by decide +kernel
theorem dX9_leak_52 : decode cX9_leak 52 = .ok (.istore 5, 2) := by decide +kernel
theorem dX9_leak_54 : decode cX9_leak 54 = .ok (.aload_n 0, 1) := by decide +kernel
theorem dX9_leak_55 : decode cX9_leak 55 = .ok (.getfield 51, 3) := by decide +kernel
theorem dX9_leak_58 : decode cX9_leak 58 = .ok (.dup, 1) := by decide +kernel
theorem dX9_leak_59 : decode cX9_leak 59 = .ok (.getfield 296, 3) := by decide +kernel
theorem dX9_leak_62 : decode cX9_leak 62 = .ok (.iload 5, 2) := by decide +kernel
theorem dX9_leak_64 : decode cX9_leak 64 = .ok (.iadd, 1) := by decide +kernel
theorem dX9_leak_65 : decode cX9_leak 65 = .ok (.putfield 296, 3) := by decide +kernel
theorem dX9_leak_68 : decode cX9_leak 68 = .ok (.iload_n 3, 1) := by decide +kernel
theorem dX9_leak_69 : decode cX9_leak 69 = .ok (.iload 5, 2) := by decide +kernel
theorem dX9_leak_71 : decode cX9_leak 71 = .ok (.isub, 1) := by decide +kernel
theorem dX9_leak_72 : decode cX9_leak 72 = .ok (.istore_n 3, 1) := by decide +kernel
theorem dX9_leak_73 : decode cX9_leak 73 = .ok (.iinc 4 1, 3) := by decide +kernel
theorem dX9_leak_76 : decode cX9_leak 76 = .ok (.goto (-71), 3) := by decide +kernel
theorem dX9_leak_79 : decode cX9_leak 79 = .ok (.iload_n 3, 1) := by decide +kernel
theorem dX9_leak_80 : decode cX9_leak 80 = .ok (.ireturn, 1) := by decide +kernel
theorem dX9_serve_0 : decode cX9_serve 0 = .ok (.iload_n 2, 1) := by decide +kernel
theorem dX9_serve_1 : decode cX9_serve 1 = .ok (.istore_n 3, 1) := by decide +kernel
theorem dX9_serve_2 : decode cX9_serve 2 = .ok (.iconst 0, 1) := by decide +kernel
theorem dX9_serve_3 : decode cX9_serve 3 = .ok (.istore 4, 2) := by decide +kernel
theorem dX9_serve_5 : decode cX9_serve 5 = .ok (.iload 4, 2) := by decide +kernel
theorem dX9_serve_7 : decode cX9_serve 7 = .ok (.aload_n 0, 1) := by decide +kernel
theorem dX9_serve_8 : decode cX9_serve 8 = .ok (.getfield 10, 3) := by decide +kernel
theorem dX9_serve_11 : decode cX9_serve 11 = .ok (.invokevirtual 78, 3) := by decide +kernel
theorem dX9_serve_14 : decode cX9_serve 14 = .ok (.if_icmp .ge 41, 3) := by decide +kernel
theorem dX9_serve_17 : decode cX9_serve 17 = .ok (.iload_n 1, 1) := by decide +kernel
theorem dX9_serve_18 : decode cX9_serve 18 = .ok (.iload 4, 2) := by decide +kernel
theorem dX9_serve_20 : decode cX9_serve 20 = .ok (.invokestatic 187, 3) := by decide +kernel
theorem dX9_serve_23 : decode cX9_serve 23 = .ok (.ifCond .eq 26, 3) := by decide +kernel
theorem dX9_serve_26 : decode cX9_serve 26 = .ok (.iload_n 3, 1) := by decide +kernel
theorem dX9_serve_27 : decode cX9_serve 27 = .ok (.aload_n 0, 1) := by decide +kernel
theorem dX9_serve_28 : decode cX9_serve 28 = .ok (.getfield 10, 3) := by decide +kernel
theorem dX9_serve_31 : decode cX9_serve 31 = .ok (.iload 4, 2) := by decide +kernel
theorem dX9_serve_33 : decode cX9_serve 33 = .ok (.invokevirtual 190, 3) := by decide +kernel
theorem dX9_serve_36 : decode cX9_serve 36 = .ok (.checkcast 82, 3) := by decide +kernel
theorem dX9_serve_39 : decode cX9_serve 39 = .ok (.iload_n 3, 1) := by decide +kernel
theorem dX9_serve_40 : decode cX9_serve 40 = .ok (.aload_n 0, 1) := by decide +kernel
theorem dX9_serve_41 : decode cX9_serve 41 = .ok (.getfield 51, 3) := by decide +kernel
theorem dX9_serve_44 : decode cX9_serve 44 = .ok (.invokevirtual 332, 3) := by decide +kernel
theorem dX9_serve_47 : decode cX9_serve 47 = .ok (.isub, 1) := by decide +kernel
theorem dX9_serve_48 : decode cX9_serve 48 = .ok (.istore_n 3, 1) := by decide +kernel
theorem dX9_serve_49 : decode cX9_serve 49 = .ok (.iinc 4 1, 3) := by decide +kernel
theorem dX9_serve_52 : decode cX9_serve 52 = .ok (.goto (-47), 3) := by decide +kernel
theorem dX9_serve_55 : decode cX9_serve 55 = .ok (.iload_n 3, 1) := by decide +kernel
theorem dX9_serve_56 : decode cX9_serve 56 = .ok (.ireturn, 1) := by decide +kernel
theorem dX9_drink_0 : decode cX9_drink 0 = .ok (.iconst 0, 1) := by decide +kernel
theorem dX9_drink_1 : decode cX9_drink 1 = .ok (.istore_n 1, 1) := by decide +kernel
theorem dX9_drink_2 : decode cX9_drink 2 = .ok (.iload_n 1, 1) := by decide +kernel
theorem dX9_drink_3 : decode cX9_drink 3 = .ok (.aload_n 0, 1) := by decide +kernel
theorem dX9_drink_4 : decode cX9_drink 4 = .ok (.getfield 16, 3) := by decide +kernel
theorem dX9_drink_7 : decode cX9_drink 7 = .ok (.invokevirtual 78, 3) := by decide +kernel
theorem dX9_drink_10 : decode cX9_drink 10 = .ok (.if_icmp .ge 30, 3) := by decide +kernel
theorem dX9_drink_13 : decode cX9_drink 13 = .ok (.aload_n 0, 1) := by decide +kernel
theorem dX9_drink_14 : decode cX9_drink 14 = .ok (.getfield 16, 3) := by decide +kernel
theorem dX9_drink_17 : decode cX9_drink 17 = .ok (.iload_n 1, 1) := by decide +kernel
theorem dX9_drink_18 : decode cX9_drink 18 = .ok (.invokevirtual 190, 3) := by decide +kernel
theorem dX9_drink_21 : decode cX9_drink 21 = .ok (.checkcast 109, 3) := by decide +kernel
theorem dX9_drink_24 : decode cX9_drink 24 = .ok (.astore_n 2, 1) := by decide +kernel
theorem dX9_drink_25 : decode cX9_drink 25 = .ok (.aload_n 2, 1) := by decide +kernel
theorem dX9_drink_26 : decode cX9_drink 26 = .ok (.aload_n 0, 1) := by decide +kernel
theorem dX9_drink_27 : decode cX9_drink 27 = .ok (.aload_n 2, 1) := by decide +kernel
theorem dX9_drink_28 : decode cX9_drink 28 = .ok (.invokevirtual 281, 3) := by decide +kernel
theorem dX9_drink_31 : decode cX9_drink 31 = .ok (.invokevirtual 336, 3) := by decide +kernel
theorem dX9_drink_34 : decode cX9_drink 34 = .ok (.iinc 1 1, 3) := by decide +kernel
theorem dX9_drink_37 : decode cX9_drink 37 = .ok (.goto (-35), 3) := by decide +kernel
theorem dX9_drink_40 : decode cX9_drink 40 = .ok (.return_, 1) := by decide +kernel
theorem dX9_useNow_0 : decode cX9_useNow 0 = .ok (.aload_n 0, 1) := by decide +kernel
theorem dX9_useNow_1 : decode cX9_useNow 1 = .ok (.aload_n 1, 1) := by decide +kernel
theorem dX9_useNow_2 : decode cX9_useNow 2 = .ok (.getfield 153, 3) := by decide +kernel
theorem dX9_useNow_5 : decode cX9_useNow 5 = .ok (.invokevirtual 118, 3) := by decide +kernel
theorem dX9_useNow_8 : decode cX9_useNow 8 = .ok (.astore_n 2, 1) := by decide +kernel
theorem dX9_useNow_9 : decode cX9_useNow 9 = .ok (.aload_n 2, 1) := by decide +kernel
theorem dX9_useNow_10 : decode cX9_useNow 10 = .ok (.ifnull 10, 3) := by decide +kernel
theorem dX9_useNow_13 : decode cX9_useNow 13 = .ok (.aload_n 2, 1) := by decide +kernel
theorem dX9_useNow_14 : decode cX9_useNow 14 = .ok (.getfield 339, 3) := by decide +kernel
theorem dX9_useNow_17 : decode cX9_useNow 17 = .ok (.ifCond .gt 8, 3) := by decide +kernel
theorem dX9_useNow_20 : decode cX9_useNow 20 = .ok (.aload_n 1, 1) := by decide +kernel
theorem dX9_useNow_21 : decode cX9_useNow 21 = .ok (.getfield 342, 3) := by decide +kernel
theorem dX9_useNow_24 : decode cX9_useNow 24 = .ok (.ireturn, 1) := by decide +kernel
theorem dX9_useNow_25 : decode cX9_useNow 25 = .ok (.aload_n 2, 1) := by decide +kernel
theorem dX9_useNow_26 : decode cX9_useNow 26 = .ok (.getfield 137, 3) := by decide +kernel
theorem dX9_useNow_29 : decode cX9_useNow 29 = .ok (.aload_n 0, 1) := by decide +kernel
theorem dX9_useNow_30 : decode cX9_useNow 30 = .ok (.getfield 201, 3) := by decide +kernel
theorem dX9_useNow_33 : decode cX9_useNow 33 = .ok (.bipush 24, 2) := by decide +kernel
theorem dX9_useNow_35 : decode cX9_useNow 35 = .ok (.irem, 1) := by decide +kernel
theorem dX9_useNow_36 : decode cX9_useNow 36 = .ok (.aload_n 2, 1) := by decide +kernel
theorem dX9_useNow_37 : decode cX9_useNow 37 = .ok (.getfield 339, 3) := by decide +kernel
theorem dX9_useNow_40 : decode cX9_useNow 40 = .ok (.irem, 1) := by decide +kernel
theorem dX9_useNow_41 : decode cX9_useNow 41 = .ok (.iaload, 1) := by decide +kernel
theorem dX9_useNow_42 : decode cX9_useNow 42 = .ok (.ireturn, 1) := by decide +kernel
theorem dX9_stepsBetween_0 : decode cX9_stepsBetween 0 = .ok (.iload_n 1, 1) := by decide +kernel
theorem dX9_stepsBetween_1 : decode cX9_stepsBetween 1 = .ok (.istore_n 3, 1) := by decide +kernel
theorem dX9_stepsBetween_2 : decode cX9_stepsBetween 2 = .ok (.iload_n 2, 1) := by decide +kernel
theorem dX9_stepsBetween_3 : decode cX9_stepsBetween 3 = .ok (.istore 4, 2) := by decide +kernel
theorem dX9_stepsBetween_5 : decode cX9_stepsBetween 5 = .ok (.iconst 0, 1) := by decide +kernel
theorem dX9_stepsBetween_6 : decode cX9_stepsBetween 6 = .ok (.istore 5, 2) := by decide +kernel
theorem dX9_stepsBetween_8 : decode cX9_stepsBetween 8 = .ok (.iload_n 3, 1) := by decide +kernel
theorem dX9_stepsBetween_9 : decode cX9_stepsBetween 9 = .ok (.iload 4, 2) := by decide +kernel
theorem dX9_stepsBetween_11 : decode cX9_stepsBetween 11 = .ok (.if_icmp .eq 39, 3) := by decide +kernel
theorem dX9_stepsBetween_14 : decode cX9_stepsBetween 14 = .ok (.iload 5, 2) := by decide +kernel
theorem dX9_stepsBetween_16 : decode cX9_stepsBetween 16 = .ok (.bipush 20, 2) := by decide +kernel
theorem dX9_stepsBetween_18 : decode cX9_stepsBetween 18 = .ok (.if_icmp .ge 32, 3) := by decide +kernel
theorem dX9_stepsBetween_21 : decode cX9_stepsBetween 21 = .ok (.iload_n 3, 1) := by decide +kernel
theorem dX9_stepsBetween_22 : decode cX9_stepsBetween 22 = .ok (.iload 4, 2) := by decide +kernel
theorem dX9_stepsBetween_24 : decode cX9_stepsBetween 24 = .ok (.if_icmp .le 12, 3) := by decide +kernel
theorem dX9_stepsBetween_27 : decode cX9_stepsBetween 27 = .ok (.aload_n 0, 1) := by decide +kernel
theorem dX9_stepsBetween_28 : decode cX9_stepsBetween 28 = .ok (.iload_n 3, 1) := by decide +kernel
theorem dX9_stepsBetween_29 : decode cX9_stepsBetween 29 = .ok (.invokevirtual 345, 3) := by decide +kernel
theorem dX9_stepsBetween_32 : decode cX9_stepsBetween 32 = .ok (.istore_n 3, 1) := by decide +kernel
theorem dX9_stepsBetween_33 : decode cX9_stepsBetween 33 = .ok (.goto 11, 3) := by decide +kernel
theorem dX9_stepsBetween_36 : decode cX9_stepsBetween 36 = .ok (.aload_n 0, 1) := by decide +kernel
theorem dX9_stepsBetween_37 : decode cX9_stepsBetween 37 = .ok (.iload 4, 2) := by decide +kernel
theorem dX9_stepsBetween_39 : decode cX9_stepsBetween 39 = .ok (.invokevirtual 345, 3) := by decide +kernel
theorem dX9_stepsBetween_42 : decode cX9_stepsBetween 42 = .ok (.istore 4, 2) := by decide +kernel
theorem dX9_stepsBetween_44 : decode cX9_stepsBetween 44 = .ok (.iinc 5 1, 3) := by decide +kernel
theorem dX9_stepsBetween_47 : decode cX9_stepsBetween 47 = .ok (.goto (-39), 3) := by decide +kernel
theorem dX9_stepsBetween_50 : decode cX9_stepsBetween 50 = .ok (.iload 5, 2) := by decide +kernel
theorem dX9_stepsBetween_52 : decode cX9_stepsBetween 52 = .ok (.ireturn, 1) := by decide +kernel
theorem dX9_placeAheadOf_0 : decode cX9_placeAheadOf 0 = .ok (.aload_n 0, 1) := by decide +kernel
theorem dX9_placeAheadOf_1 : decode cX9_placeAheadOf 1 = .ok (.iload_n 1, 1) := by decide +kernel
theorem dX9_placeAheadOf_2 : decode cX9_placeAheadOf 2 = .ok (.invokevirtual 105, 3) := by decide +kernel
theorem dX9_placeAheadOf_5 : decode cX9_placeAheadOf 5 = .ok (.astore_n 2, 1) := by decide +kernel
theorem dX9_placeAheadOf_6 : decode cX9_placeAheadOf 6 = .ok (.aload_n 2, 1) := by decide +kernel
theorem dX9_placeAheadOf_7 : decode cX9_placeAheadOf 7 = .ok (.ifnonnull 7, 3) := by decide +kernel
theorem dX9_placeAheadOf_10 : decode cX9_placeAheadOf 10 = .ok (.iconst (-1), 1) := by decide +kernel
theorem dX9_placeAheadOf_11 : decode cX9_placeAheadOf 11 = .ok (.goto 7, 3) := by decide +kernel
theorem dX9_placeAheadOf_14 : decode cX9_placeAheadOf 14 = .ok (.aload_n 2, 1) := by decide +kernel
theorem dX9_placeAheadOf_15 : decode cX9_placeAheadOf 15 = .ok (.getfield 290, 3) := by decide +kernel
theorem dX9_placeAheadOf_18 : decode cX9_placeAheadOf 18 = .ok (.ireturn, 1) := by decide +kernel
theorem dX9_isClash_0 : decode cX9_isClash 0 = .ok (.aload_n 1, 1) := by decide +kernel
theorem dX9_isClash_1 : decode cX9_isClash 1 = .ok (.getfield 348, 3) := by decide +kernel
theorem dX9_isClash_4 : decode cX9_isClash 4 = .ok (.aload_n 2, 1) := by decide +kernel
theorem dX9_isClash_5 : decode cX9_isClash 5 = .ok (.getfield 348, 3) := by decide +kernel
theorem dX9_isClash_8 : decode cX9_isClash 8 = .ok (.if_icmp .ne 5, 3) := by decide +kernel
theorem dX9_isClash_11 : decode cX9_isClash 11 = .ok (.iconst 0, 1) := by decide +kernel
theorem dX9_isClash_12 : decode cX9_isClash 12 = .ok (.ireturn, 1) := by decide +kernel
theorem dX9_isClash_13 : decode cX9_isClash 13 = .ok (.aload_n 1, 1) := by decide +kernel
theorem dX9_isClash_14 : decode cX9_isClash 14 = .ok (.aload_n 2, 1) := by decide +kernel
theorem dX9_isClash_15 : decode cX9_isClash 15 = .ok (.invokevirtual 349, 3) := by decide +kernel
theorem dX9_isClash_18 : decode cX9_isClash 18 = .ok (.ifCond .eq 5, 3) := by decide +kernel
theorem dX9_isClash_21 : decode cX9_isClash 21 = .ok (.iconst 1, 1) := by decide +kernel
theorem dX9_isClash_22 : decode cX9_isClash 22 = .ok (.ireturn, 1) := by decide +kernel
theorem dX9_isClash_23 : decode cX9_isClash 23 = .ok (.aload_n 1, 1) := by decide +kernel
theorem dX9_isClash_24 : decode cX9_isClash 24 = .ok (.aload_n 2, 1) := by decide +kernel
theorem dX9_isClash_25 : decode cX9_isClash 25 = .ok (.invokevirtual 353, 3) := by decide +kernel
theorem dX9_isClash_28 : decode cX9_isClash 28 = .ok (.aload_n 2, 1) := by decide +kernel
theorem dX9_isClash_29 : decode cX9_isClash 29 = .ok (.aload_n 1, 1) := by decide +kernel
theorem dX9_isClash_30 : decode cX9_isClash 30 = .ok (.invokevirtual 353, 3) := by decide +kernel
theorem dX9_isClash_33 : decode cX9_isClash 33 = .ok (.invokestatic 327, 3) := by decide +kernel
theorem dX9_isClash_36 : decode cX9_isClash 36 = .ok (.istore_n 3, 1) := by decide +kernel
theorem dX9_isClash_37 : decode cX9_isClash 37 = .ok (.aload_n 0, 1) := by decide +kernel
theorem dX9_isClash_38 : decode cX9_isClash 38 = .ok (.aload_n 1, 1) := by decide +kernel
theorem dX9_isClash_39 : decode cX9_isClash 39 = .ok (.getfield 348, 3) := by decide +kernel
theorem dX9_isClash_42 : decode cX9_isClash 42 = .ok (.aload_n 2, 1) := by decide +kernel
theorem dX9_isClash_43 : decode cX9_isClash 43 = .ok (.getfield 348, 3) := by decide +kernel
theorem dX9_isClash_46 : decode cX9_isClash 46 = .ok (.invokevirtual 213, 3) := by decide +kernel
theorem dX9_isClash_49 : decode cX9_isClash 49 = .ok (.iconst 1, 1) := by decide +kernel
theorem dX9_isClash_50 : decode cX9_isClash 50 = .ok (.iadd, 1) := by decide +kernel
theorem dX9_isClash_51 : decode cX9_isClash 51 = .ok (.iconst 2, 1) := by decide +kernel
theorem dX9_isClash_52 : decode cX9_isClash 52 = .ok (.idiv, 1) := by decide +kernel
theorem dX9_isClash_53 : decode cX9_isClash 53 = .ok (.istore 4, 2) := by decide +kernel
theorem dX9_isClash_55 : decode cX9_isClash 55 = .ok (.iload_n 3, 1) := by decide +kernel
theorem dX9_isClash_56 : decode cX9_isClash 56 = .ok (.iload 4, 2) := by decide +kernel
theorem dX9_isClash_58 : decode cX9_isClash 58 = .ok (.if_icmp .ge 7, 3) := by decide +kernel
theorem dX9_isClash_61 : decode cX9_isClash 61 = .ok (.iconst 1, 1) := by decide +kernel
theorem dX9_isClash_62 : decode cX9_isClash 62 = .ok (.goto 4, 3) := by decide +kernel
theorem dX9_isClash_65 : decode cX9_isClash 65 = .ok (.iconst 0, 1) := by decide +kernel
theorem dX9_isClash_66 : decode cX9_isClash 66 = .ok (.ireturn, 1) := by decide +kernel
theorem dX9_shutUpTo_0 : decode cX9_shutUpTo 0 = .ok (.iconst 0, 1) := by decide +kernel
theorem dX9_shutUpTo_1 : decode cX9_shutUpTo 1 = .ok (.istore_n 2, 1) := by decide +kernel
theorem dX9_shutUpTo_2 : decode cX9_shutUpTo 2 = .ok (.iload_n 1, 1) := by decide +kernel
theorem dX9_shutUpTo_3 : decode cX9_shutUpTo 3 = .ok (.istore_n 3, 1) := by decide +kernel
theorem dX9_shutUpTo_4 : decode cX9_shutUpTo 4 = .ok (.iconst 0, 1) := by decide +kernel
theorem dX9_shutUpTo_5 : decode cX9_shutUpTo 5 = .ok (.istore 4, 2) := by decide +kernel
theorem dX9_shutUpTo_7 : decode cX9_shutUpTo 7 = .ok (.iload 4, 2) := by decide +kernel
theorem dX9_shutUpTo_9 : decode cX9_shutUpTo 9 = .ok (.bipush 10, 2) := by decide +kernel
theorem dX9_shutUpTo_11 : decode cX9_shutUpTo 11 = .ok (.if_icmp .ge 26, 3) := by decide +kernel
theorem dX9_shutUpTo_14 : decode cX9_shutUpTo 14 = .ok (.iload_n 3, 1) := by decide +kernel
theorem dX9_shutUpTo_15 : decode cX9_shutUpTo 15 = .ok (.iconst (-1), 1) := by decide +kernel
theorem dX9_shutUpTo_16 : decode cX9_shutUpTo 16 = .ok (.if_icmp .eq 21, 3) := by decide +kernel
theorem dX9_shutUpTo_19 : decode cX9_shutUpTo 19 = .ok (.iload_n 2, 1) := by decide +kernel
theorem dX9_shutUpTo_20 : decode cX9_shutUpTo 20 = .ok (.iconst 1, 1) := by decide +kernel
theorem dX9_shutUpTo_21 : decode cX9_shutUpTo 21 = .ok (.iload_n 3, 1) := by decide +kernel
theorem dX9_shutUpTo_22 : decode cX9_shutUpTo 22 = .ok (.ishl, 1) := by decide +kernel
theorem dX9_shutUpTo_23 : decode cX9_shutUpTo 23 = .ok (.ior, 1) := by decide +kernel
theorem dX9_shutUpTo_24 : decode cX9_shutUpTo 24 = .ok (.istore_n 2, 1) := by decide +kernel
theorem dX9_shutUpTo_25 : decode cX9_shutUpTo 25 = .ok (.aload_n 0, 1) := by decide +kernel
theorem dX9_shutUpTo_26 : decode cX9_shutUpTo 26 = .ok (.iload_n 3, 1) := by decide +kernel
theorem dX9_shutUpTo_27 : decode cX9_shutUpTo 27 = .ok (.invokevirtual 345, 3) := by decide +kernel
theorem dX9_shutUpTo_30 : decode cX9_shutUpTo 30 = .ok (.istore_n 3, 1) := by decide +kernel
theorem dX9_shutUpTo_31 : decode cX9_shutUpTo 31 = .ok (.iinc 4 1, 3) := by decide +kernel
theorem dX9_shutUpTo_34 : decode cX9_shutUpTo 34 = .ok (.goto (-27), 3) := by decide +kernel
theorem dX9_shutUpTo_37 : decode cX9_shutUpTo 37 = .ok (.iload_n 2, 1) := by decide +kernel
theorem dX9_shutUpTo_38 : decode cX9_shutUpTo 38 = .ok (.aload_n 0, 1) := by decide +kernel
theorem dX9_shutUpTo_39 : decode cX9_shutUpTo 39 = .ok (.getfield 44, 3) := by decide +kernel
theorem dX9_shutUpTo_42 : decode cX9_shutUpTo 42 = .ok (.aload_n 0, 1) := by decide +kernel
theorem dX9_shutUpTo_43 : decode cX9_shutUpTo 43 = .ok (.getfield 201, 3) := by decide +kernel
theorem dX9_shutUpTo_46 : decode cX9_shutUpTo 46 = .ok (.invokevirtual 181, 3) := by decide +kernel
theorem dX9_shutUpTo_49 : decode cX9_shutUpTo 49 = .ok (.iconst (-1), 1) := by decide +kernel
theorem dX9_shutUpTo_50 : decode cX9_shutUpTo 50 = .ok (.ixor, 1) := by decide +kernel
theorem dX9_shutUpTo_51 : decode cX9_shutUpTo 51 = .ok (.iand, 1) := by decide +kernel
theorem dX9_shutUpTo_52 : decode cX9_shutUpTo 52 = .ok (.ireturn, 1) := by decide +kernel
theorem dX9_quickestCock_0 : decode cX9_quickestCock 0 = .ok (.iconst 0, 1) := by decide +kernel
theorem dX9_quickestCock_1 : decode cX9_quickestCock 1 = .ok (.istore_n 2, 1) := by decide +kernel
theorem dX9_quickestCock_2 : decode cX9_quickestCock 2 = .ok (.iconst 1, 1) := by decide +kernel
theorem dX9_quickestCock_3 : decode cX9_quickestCock 3 = .ok (.istore_n 3, 1) := by decide +kernel
theorem dX9_quickestCock_4 : decode cX9_quickestCock 4 = .ok (.iload_n 3, 1) := by decide +kernel
theorem dX9_quickestCock_5 : decode cX9_quickestCock 5 = .ok (.iconst 3, 1) := by decide +kernel
theorem dX9_quickestCock_6 : decode cX9_quickestCock 6 = .ok (.if_icmp .ge 26, 3) := by decide +kernel
theorem dX9_quickestCock_9 : decode cX9_quickestCock 9 = .ok (.aload_n 0, 1) := by decide +kernel
theorem dX9_quickestCock_10 : decode cX9_quickestCock 10 = .ok (.iload_n 3, 1) := by decide +kernel
theorem dX9_quickestCock_11 : decode cX9_quickestCock 11 = .ok (.iload_n 1, 1) := by decide +kernel
theorem dX9_quickestCock_12 : decode cX9_quickestCock 12 = .ok (.invokevirtual 228, 3) := by decide +kernel
theorem dX9_quickestCock_15 : decode cX9_quickestCock 15 = .ok (.aload_n 0, 1) := by decide +kernel
theorem dX9_quickestCock_16 : decode cX9_quickestCock 16 = .ok (.iload_n 2, 1) := by decide +kernel
theorem dX9_quickestCock_17 : decode cX9_quickestCock 17 = .ok (.iload_n 1, 1) := by decide +kernel
theorem dX9_quickestCock_18 : decode cX9_quickestCock 18 = .ok (.invokevirtual 228, 3) := by decide +kernel
theorem dX9_quickestCock_21 : decode cX9_quickestCock 21 = .ok (.if_icmp .ge 5, 3) := by decide +kernel
theorem dX9_quickestCock_24 : decode cX9_quickestCock 24 = .ok (.iload_n 3, 1) := by decide +kernel
theorem dX9_quickestCock_25 : decode cX9_quickestCock 25 = .ok (.istore_n 2, 1) := by decide +kernel
theorem dX9_quickestCock_26 : decode cX9_quickestCock 26 = .ok (.iinc 3 1, 3) := by decide +kernel
theorem dX9_quickestCock_29 : decode cX9_quickestCock 29 = .ok (.goto (-25), 3) := by decide +kernel
theorem dX9_quickestCock_32 : decode cX9_quickestCock 32 = .ok (.iload_n 2, 1) := by decide +kernel
theorem dX9_quickestCock_33 : decode cX9_quickestCock 33 = .ok (.ireturn, 1) := by decide +kernel
theorem dX9_walkLength_0 : decode cX9_walkLength 0 = .ok (.iload_n 2, 1) := by decide +kernel
theorem dX9_walkLength_1 : decode cX9_walkLength 1 = .ok (.invokestatic 357, 3) := by decide +kernel
theorem dX9_walkLength_4 : decode cX9_walkLength 4 = .ok (.istore_n 3, 1) := by decide +kernel
theorem dX9_walkLength_5 : decode cX9_walkLength 5 = .ok (.bipush 31, 2) := by decide +kernel
theorem dX9_walkLength_7 : decode cX9_walkLength 7 = .ok (.iload_n 2, 1) := by decide +kernel
theorem dX9_walkLength_8 : decode cX9_walkLength 8 = .ok (.invokestatic 360, 3) := by decide +kernel
theorem dX9_walkLength_11 : decode cX9_walkLength 11 = .ok (.isub, 1) := by decide +kernel
theorem dX9_walkLength_12 : decode cX9_walkLength 12 = .ok (.istore 4, 2) := by decide +kernel
theorem dX9_walkLength_14 : decode cX9_walkLength 14 = .ok (.aload_n 0, 1) := by decide +kernel
theorem dX9_walkLength_15 : decode cX9_walkLength 15 = .ok (.aload_n 0, 1) := by decide +kernel
theorem dX9_walkLength_16 : decode cX9_walkLength 16 = .ok (.getfield 31, 3) := by decide +kernel
theorem dX9_walkLength_19 : decode cX9_walkLength 19 = .ok (.iload_n 1, 1) := by decide +kernel
theorem dX9_walkLength_20 : decode cX9_walkLength 20 = .ok (.iaload, 1) := by decide +kernel
theorem dX9_walkLength_21 : decode cX9_walkLength 21 = .ok (.iload_n 3, 1) := by decide +kernel
theorem dX9_walkLength_22 : decode cX9_walkLength 22 = .ok (.invokevirtual 213, 3) := by decide +kernel
theorem dX9_walkLength_25 : decode cX9_walkLength 25 = .ok (.istore 5, 2) := by decide +kernel
theorem dX9_walkLength_27 : decode cX9_walkLength 27 = .ok (.aload_n 0, 1) := by decide +kernel
theorem dX9_walkLength_28 : decode cX9_walkLength 28 = .ok (.aload_n 0, 1) := by decide +kernel
theorem dX9_walkLength_29 : decode cX9_walkLength 29 = .ok (.getfield 31, 3) := by decide +kernel
theorem dX9_walkLength_32 : decode cX9_walkLength 32 = .ok (.iload_n 1, 1) := by decide +kernel
theorem dX9_walkLength_33 : decode cX9_walkLength 33 = .ok (.iaload, 1) := by decide +kernel
theorem dX9_walkLength_34 : decode cX9_walkLength 34 = .ok (.iload 4, 2) := by decide +kernel
theorem dX9_walkLength_36 : decode cX9_walkLength 36 = .ok (.invokevirtual 213, 3) := by decide +kernel
theorem dX9_walkLength_39 : decode cX9_walkLength 39 = .ok (.istore 6, 2) := by decide +kernel
theorem dX9_walkLength_41 : decode cX9_walkLength 41 = .ok (.iload 5, 2) := by decide +kernel
theorem dX9_walkLength_43 : decode cX9_walkLength 43 = .ok (.iload 6, 2) := by decide +kernel
theorem dX9_walkLength_45 : decode cX9_walkLength 45 = .ok (.invokestatic 327, 3) := by decide +kernel
theorem dX9_walkLength_48 : decode cX9_walkLength 48 = .ok (.aload_n 0, 1) := by decide +kernel
theorem dX9_walkLength_49 : decode cX9_walkLength 49 = .ok (.iload_n 3, 1) := by decide +kernel
theorem dX9_walkLength_50 : decode cX9_walkLength 50 = .ok (.iload 4, 2) := by decide +kernel
theorem dX9_walkLength_52 : decode cX9_walkLength 52 = .ok (.invokevirtual 213, 3) := by decide +kernel
theorem dX9_walkLength_55 : decode cX9_walkLength 55 = .ok (.iadd, 1) := by decide +kernel
theorem dX9_walkLength_56 : decode cX9_walkLength 56 = .ok (.ireturn, 1) := by decide +kernel
theorem dX9_refusalOfIronSum_0 : decode cX9_refusalOfIronSum 0 = .ok (.iload_n 0, 1) := by decide +kernel
theorem dX9_refusalOfIronSum_1 : decode cX9_refusalOfIronSum 1 = .ok (.ifCond .ge 6, 3) := by decide +kernel
theorem dX9_refusalOfIronSum_4 : decode cX9_refusalOfIronSum 4 = .ok (.bipush (-4), 2) := by decide +kernel
theorem dX9_refusalOfIronSum_6 : decode cX9_refusalOfIronSum 6 = .ok (.ireturn, 1) := by decide +kernel
theorem dX9_refusalOfIronSum_7 : decode cX9_refusalOfIronSum 7 = .ok (.iload_n 0, 1) := by decide +kernel
theorem dX9_refusalOfIronSum_8 : decode cX9_refusalOfIronSum 8 = .ok (.sipush 10000, 3) := by decide +kernel
theorem dX9_refusalOfIronSum_11 : decode cX9_refusalOfIronSum 11 = .ok (.if_icmp .le 8, 3) := by decide +kernel
theorem dX9_refusalOfIronSum_14 : decode cX9_refusalOfIronSum 14 = .ok (.bipush (-6), 2) := by decide +kernel
theorem dX9_refusalOfIronSum_16 : decode cX9_refusalOfIronSum 16 = .ok (.goto 4, 3) := by decide +kernel
theorem dX9_refusalOfIronSum_19 : decode cX9_refusalOfIronSum 19 = .ok (.iconst 0, 1) := by decide +kernel
theorem dX9_refusalOfIronSum_20 : decode cX9_refusalOfIronSum 20 = .ok (.ireturn, 1) := by decide +kernel
theorem dX9_findIron_0 : decode cX9_findIron 0 = .ok (.iconst 0, 1) := by decide +kernel
theorem dX9_findIron_1 : decode cX9_findIron 1 = .ok (.istore_n 2, 1) := by decide +kernel
theorem dX9_findIron_2 : decode cX9_findIron 2 = .ok (.iload_n 2, 1) := by decide +kernel
theorem dX9_findIron_3 : decode cX9_findIron 3 = .ok (.aload_n 0, 1) := by decide +kernel
theorem dX9_findIron_4 : decode cX9_findIron 4 = .ok (.getfield 10, 3) := by decide +kernel
theorem dX9_findIron_7 : decode cX9_findIron 7 = .ok (.invokevirtual 78, 3) := by decide +kernel
theorem dX9_findIron_10 : decode cX9_findIron 10 = .ok (.if_icmp .ge 74, 3) := by decide +kernel
theorem dX9_findIron_13 : decode cX9_findIron 13 = .ok (.aload_n 0, 1) := by decide +kernel
theorem dX9_findIron_14 : decode cX9_findIron 14 = .ok (.getfield 10, 3) := by decide +kernel
theorem dX9_findIron_17 : decode cX9_findIron 17 = .ok (.iload_n 2, 1) := by decide +kernel
theorem dX9_findIron_18 : decode cX9_findIron 18 = .ok (.invokevirtual 190, 3) := by decide +kernel
theorem dX9_findIron_21 : decode cX9_findIron 21 = .ok (.checkcast 82, 3) := by decide +kernel
theorem dX9_findIron_24 : decode cX9_findIron 24 = .ok (.astore_n 3, 1) := by decide +kernel
theorem dX9_findIron_25 : decode cX9_findIron 25 = .ok (.aload_n 3, 1) := by decide +kernel
theorem dX9_findIron_26 : decode cX9_findIron 26 = .ok (.getfield 207, 3) := by decide +kernel
theorem dX9_findIron_29 : decode cX9_findIron 29 = .ok (.ifCond .eq 9, 3) := by decide +kernel
theorem dX9_findIron_32 : decode cX9_findIron 32 = .ok (.sipush 10001, 3) := by decide +kernel
theorem dX9_findIron_35 : decode cX9_findIron 35 = .ok (.goto 14, 3) := by decide +kernel
theorem dX9_findIron_38 : decode cX9_findIron 38 = .ok (.aload_n 3, 1) := by decide +kernel
theorem dX9_findIron_39 : decode cX9_findIron 39 = .ok (.getfield 363, 3) := by decide +kernel
theorem dX9_findIron_42 : decode cX9_findIron 42 = .ok (.aload_n 0, 1) := by decide +kernel
theorem dX9_findIron_43 : decode cX9_findIron 43 = .ok (.getfield 35, 3) := by decide +kernel
theorem dX9_findIron_46 : decode cX9_findIron 46 = .ok (.iconst 2, 1) := by decide +kernel
theorem dX9_findIron_47 : decode cX9_findIron 47 = .ok (.iaload, 1) := by decide +kernel
theorem dX9_findIron_48 : decode cX9_findIron 48 = .ok (.imul, 1) := by decide +kernel
theorem dX9_findIron_49 : decode cX9_findIron 49 = .ok (.istore 4, 2) := by decide +kernel
theorem dX9_findIron_51 : decode cX9_findIron 51 = .ok (.aload_n 0, 1) := by decide +kernel
theorem dX9_findIron_52 : decode cX9_findIron 52 = .ok (.getfield 58, 3) := by decide +kernel
theorem dX9_findIron_55 : decode cX9_findIron 55 = .ok (.iload_n 2, 1) := by decide +kernel
theorem dX9_findIron_56 : decode cX9_findIron 56 = .ok (.iload 4, 2) := by decide +kernel
theorem dX9_findIron_58 : decode cX9_findIron 58 = .ok (.aload_n 3, 1) := by decide +kernel
theorem dX9_findIron_59 : decode cX9_findIron 59 = .ok (.aload_n 0, 1) := by decide +kernel
theorem dX9_findIron_60 : decode cX9_findIron 60 = .ok (.invokevirtual 84, 3) := by decide +kernel
theorem dX9_findIron_63 : decode cX9_findIron 63 = .ok (.invokevirtual 287, 3) := by decide +kernel
theorem dX9_findIron_66 : decode cX9_findIron 66 = .ok (.aload_n 0, 1) := by decide +kernel
theorem dX9_findIron_67 : decode cX9_findIron 67 = .ok (.getfield 44, 3) := by decide +kernel
theorem dX9_findIron_70 : decode cX9_findIron 70 = .ok (.iload_n 2, 1) := by decide +kernel
theorem dX9_findIron_71 : decode cX9_findIron 71 = .ok (.invokevirtual 364, 3) := by decide +kernel
theorem dX9_findIron_74 : decode cX9_findIron 74 = .ok (.imul, 1) := by decide +kernel
theorem dX9_findIron_75 : decode cX9_findIron 75 = .ok (.invokevirtual 367, 3) := by decide +kernel
theorem dX9_findIron_78 : decode cX9_findIron 78 = .ok (.iinc 2 1, 3) := by decide +kernel
theorem dX9_findIron_81 : decode cX9_findIron 81 = .ok (.goto (-79), 3) := by decide +kernel
theorem dX9_findIron_84 : decode cX9_findIron 84 = .ok (.aload_n 0, 1) := by decide +kernel
theorem dX9_findIron_85 : decode cX9_findIron 85 = .ok (.getfield 58, 3) := by decide +kernel
theorem dX9_findIron_88 : decode cX9_findIron 88 = .ok (.aload_n 0, 1) := by decide +kernel
theorem dX9_findIron_89 : decode cX9_findIron 89 = .ok (.getfield 10, 3) := by decide +kernel
theorem dX9_findIron_92 : decode cX9_findIron 92 = .ok (.invokevirtual 78, 3) := by decide +kernel
theorem dX9_findIron_95 : decode cX9_findIron 95 = .ok (.iload_n 1, 1) := by decide +kernel
theorem dX9_findIron_96 : decode cX9_findIron 96 = .ok (.invokevirtual 370, 3) := by decide +kernel
theorem dX9_findIron_99 : decode cX9_findIron 99 = .ok (.ireturn, 1) := by decide +kernel
theorem dX9_refusalOfDays_0 : decode cX9_refusalOfDays 0 = .ok (.iload_n 1, 1) := by decide +kernel
theorem dX9_refusalOfDays_1 : decode cX9_refusalOfDays 1 = .ok (.iconst 1, 1) := by decide +kernel
theorem dX9_refusalOfDays_2 : decode cX9_refusalOfDays 2 = .ok (.aload_n 0, 1) := by decide +kernel
theorem dX9_refusalOfDays_3 : decode cX9_refusalOfDays 3 = .ok (.getfield 10, 3) := by decide +kernel
theorem dX9_refusalOfDays_6 : decode cX9_refusalOfDays 6 = .ok (.invokevirtual 78, 3) := by decide +kernel
theorem dX9_refusalOfDays_9 : decode cX9_refusalOfDays 9 = .ok (.ishl, 1) := by decide +kernel
theorem dX9_refusalOfDays_10 : decode cX9_refusalOfDays 10 = .ok (.iconst 1, 1) := by decide +kernel
theorem dX9_refusalOfDays_11 : decode cX9_refusalOfDays 11 = .ok (.isub, 1) := by decide +kernel
theorem dX9_refusalOfDays_12 : decode cX9_refusalOfDays 12 = .ok (.iconst (-1), 1) := by decide +kernel
theorem dX9_refusalOfDays_13 : decode cX9_refusalOfDays 13 = .ok (.ixor, 1) := by decide +kernel
theorem dX9_refusalOfDays_14 : decode cX9_refusalOfDays 14 = .ok (.iand, 1) := by decide +kernel
theorem dX9_refusalOfDays_15 : decode cX9_refusalOfDays 15 = .ok (.ifCond .eq 5, 3) := by decide +kernel
theorem dX9_refusalOfDays_18 : decode cX9_refusalOfDays 18 = .ok (.iconst (-1), 1) := by decide +kernel
theorem dX9_refusalOfDays_19 : decode cX9_refusalOfDays 19 = .ok (.ireturn, 1) := by decide +kernel
theorem dX9_refusalOfDays_20 : decode cX9_refusalOfDays 20 = .ok (.iload_n 1, 1) := by decide +kernel
theorem dX9_refusalOfDays_21 : decode cX9_refusalOfDays 21 = .ok (.invokestatic 220, 3) := by decide +kernel
theorem dX9_refusalOfDays_24 : decode cX9_refusalOfDays 24 = .ok (.bipush 6, 2) := by decide +kernel
theorem dX9_refusalOfDays_26 : decode cX9_refusalOfDays 26 = .ok (.if_icmp .le 6, 3) := by decide +kernel
theorem dX9_refusalOfDays_29 : decode cX9_refusalOfDays 29 = .ok (.bipush (-6), 2) := by decide +kernel
theorem dX9_refusalOfDays_31 : decode cX9_refusalOfDays 31 = .ok (.ireturn, 1) := by decide +kernel
theorem dX9_refusalOfDays_32 : decode cX9_refusalOfDays 32 = .ok (.iload_n 2, 1) := by decide +kernel
theorem dX9_refusalOfDays_33 : decode cX9_refusalOfDays 33 = .ok (.ifCond .ge 6, 3) := by decide +kernel
theorem dX9_refusalOfDays_36 : decode cX9_refusalOfDays 36 = .ok (.bipush (-4), 2) := by decide +kernel
theorem dX9_refusalOfDays_38 : decode cX9_refusalOfDays 38 = .ok (.ireturn, 1) := by decide +kernel
theorem dX9_refusalOfDays_39 : decode cX9_refusalOfDays 39 = .ok (.iload_n 2, 1) := by decide +kernel
theorem dX9_refusalOfDays_40 : decode cX9_refusalOfDays 40 = .ok (.ldc 100, 2) := by decide +kernel
theorem dX9_refusalOfDays_42 : decode cX9_refusalOfDays 42 = .ok (.if_icmp .le 8, 3) := by decide +kernel
theorem dX9_refusalOfDays_45 : decode cX9_refusalOfDays 45 = .ok (.bipush (-6), 2) := by decide +kernel
theorem dX9_refusalOfDays_47 : decode cX9_refusalOfDays 47 = .ok (.goto 4, 3) := by decide +kernel
theorem dX9_refusalOfDays_50 : decode cX9_refusalOfDays 50 = .ok (.iconst 0, 1) := by decide +kernel
theorem dX9_refusalOfDays_51 : decode cX9_refusalOfDays 51 = .ok (.ireturn, 1) := by decide +kernel
theorem dX9_findDays_0 : decode cX9_findDays 0 = .ok (.aload_n 0, 1) := by decide +kernel
theorem dX9_findDays_1 : decode cX9_findDays 1 = .ok (.getfield 65, 3) := by decide +kernel
theorem dX9_findDays_4 : decode cX9_findDays 4 = .ok (.iload_n 2, 1) := by decide +kernel
theorem dX9_findDays_5 : decode cX9_findDays 5 = .ok (.invokevirtual 373, 3) := by decide +kernel
theorem dX9_findDays_8 : decode cX9_findDays 8 = .ok (.iconst 0, 1) := by decide +kernel
theorem dX9_findDays_9 : decode cX9_findDays 9 = .ok (.istore_n 3, 1) := by decide +kernel
theorem dX9_findDays_10 : decode cX9_findDays 10 = .ok (.iload_n 3, 1) := by decide +kernel
theorem dX9_findDays_11 : decode cX9_findDays 11 = .ok (.aload_n 0, 1) := by decide +kernel
theorem dX9_findDays_12 : decode cX9_findDays 12 = .ok (.getfield 10, 3) := by decide +kernel
theorem dX9_findDays_15 : decode cX9_findDays 15 = .ok (.invokevirtual 78, 3) := by decide +kernel
theorem dX9_findDays_18 : decode cX9_findDays 18 = .ok (.if_icmp .ge 38, 3) := by decide +kernel
theorem dX9_findDays_21 : decode cX9_findDays 21 = .ok (.iload_n 1, 1) := by decide +kernel
theorem dX9_findDays_22 : decode cX9_findDays 22 = .ok (.iload_n 3, 1) := by decide +kernel
theorem dX9_findDays_23 : decode cX9_findDays 23 = .ok (.invokestatic 187, 3) := by decide +kernel
theorem dX9_findDays_26 : decode cX9_findDays 26 = .ok (.ifCond .eq 24, 3) := by decide +kernel
theorem dX9_findDays_29 : decode cX9_findDays 29 = .ok (.aload_n 0, 1) := by decide +kernel
theorem dX9_findDays_30 : decode cX9_findDays 30 = .ok (.getfield 65, 3) := by decide +kernel
theorem dX9_findDays_33 : decode cX9_findDays 33 = .ok (.aload_n 0, 1) := by decide +kernel
theorem dX9_findDays_34 : decode cX9_findDays 34 = .ok (.getfield 10, 3) := by decide +kernel
theorem dX9_findDays_37 : decode cX9_findDays 37 = .ok (.iload_n 3, 1) := by decide +kernel
theorem dX9_findDays_38 : decode cX9_findDays 38 = .ok (.invokevirtual 190, 3) := by decide +kernel
theorem dX9_findDays_41 : decode cX9_findDays 41 = .ok (.checkcast 82, 3) := by decide +kernel
theorem dX9_findDays_44 : decode cX9_findDays 44 = .ok (.invokevirtual 293, 3) := by decide +kernel
theorem dX9_findDays_47 : decode cX9_findDays 47 = .ok (.invokevirtual 376, 3) := by decide +kernel
theorem dX9_findDays_50 : decode cX9_findDays 50 = .ok (.iinc 3 1, 3) := by decide +kernel
theorem dX9_findDays_53 : decode cX9_findDays 53 = .ok (.goto (-43), 3) := by decide +kernel
theorem dX9_findDays_56 : decode cX9_findDays 56 = .ok (.aload_n 0, 1) := by decide +kernel
theorem dX9_findDays_57 : decode cX9_findDays 57 = .ok (.getfield 65, 3) := by decide +kernel
theorem dX9_findDays_60 : decode cX9_findDays 60 = .ok (.invokevirtual 378, 3) := by decide +kernel
theorem dX9_findDays_63 : decode cX9_findDays 63 = .ok (.return_, 1) := by decide +kernel
theorem dX9_lawOn_0 : decode cX9_lawOn 0 = .ok (.aconst_null, 1) := by decide +kernel
theorem dX9_lawOn_1 : decode cX9_lawOn 1 = .ok (.astore_n 2, 1) := by decide +kernel
theorem dX9_lawOn_2 : decode cX9_lawOn 2 = .ok (.iconst 0, 1) := by decide +kernel
theorem dX9_lawOn_3 : decode cX9_lawOn 3 = .ok (.istore_n 3, 1) := by decide +kernel
theorem dX9_lawOn_4 : decode cX9_lawOn 4 = .ok (.iload_n 3, 1) := by decide +kernel
theorem dX9_lawOn_5 : decode cX9_lawOn 5 = .ok (.aload_n 0, 1) := by decide +kernel
theorem dX9_lawOn_6 : decode cX9_lawOn 6 = .ok (.getfield 22, 3) := by decide +kernel
theorem dX9_lawOn_9 : decode cX9_lawOn 9 = .ok (.invokevirtual 78, 3) := by decide +kernel
theorem dX9_lawOn_12 : decode cX9_lawOn 12 = .ok (.if_icmp .ge 50, 3) := by decide +kernel
theorem dX9_lawOn_15 : decode cX9_lawOn 15 = .ok (.aload_n 0, 1) := by decide +kernel
theorem dX9_lawOn_16 : decode cX9_lawOn 16 = .ok (.getfield 22, 3) := by decide +kernel
theorem dX9_lawOn_19 : decode cX9_lawOn 19 = .ok (.iload_n 3, 1) := by decide +kernel
theorem dX9_lawOn_20 : decode cX9_lawOn 20 = .ok (.invokevirtual 190, 3) := by decide +kernel
theorem dX9_lawOn_23 : decode cX9_lawOn 23 = .ok (.checkcast 264, 3) := by decide +kernel
theorem dX9_lawOn_26 : decode cX9_lawOn 26 = .ok (.astore 4, 2) := by decide +kernel
theorem dX9_lawOn_28 : decode cX9_lawOn 28 = .ok (.aload 4, 2) := by decide +kernel
theorem dX9_lawOn_30 : decode cX9_lawOn 30 = .ok (.getfield 381, 3) := by decide +kernel
theorem dX9_lawOn_33 : decode cX9_lawOn 33 = .ok (.iload_n 1, 1) := by decide +kernel
theorem dX9_lawOn_34 : decode cX9_lawOn 34 = .ok (.if_icmp .gt 22, 3) := by decide +kernel
theorem dX9_lawOn_37 : decode cX9_lawOn 37 = .ok (.aload_n 2, 1) := by decide +kernel
theorem dX9_lawOn_38 : decode cX9_lawOn 38 = .ok (.ifnull 15, 3) := by decide +kernel
theorem dX9_lawOn_41 : decode cX9_lawOn 41 = .ok (.aload 4, 2) := by decide +kernel
theorem dX9_lawOn_43 : decode cX9_lawOn 43 = .ok (.getfield 381, 3) := by decide +kernel
theorem dX9_lawOn_46 : decode cX9_lawOn 46 = .ok (.aload_n 2, 1) := by decide +kernel
theorem dX9_lawOn_47 : decode cX9_lawOn 47 = .ok (.getfield 381, 3) := by decide +kernel
theorem dX9_lawOn_50 : decode cX9_lawOn 50 = .ok (.if_icmp .lt 6, 3) := by decide +kernel
theorem dX9_lawOn_53 : decode cX9_lawOn 53 = .ok (.aload 4, 2) := by decide +kernel
theorem dX9_lawOn_55 : decode cX9_lawOn 55 = .ok (.astore_n 2, 1) := by decide +kernel
theorem dX9_lawOn_56 : decode cX9_lawOn 56 = .ok (.iinc 3 1, 3) := by decide +kernel
theorem dX9_lawOn_59 : decode cX9_lawOn 59 = .ok (.goto (-55), 3) := by decide +kernel
theorem dX9_lawOn_62 : decode cX9_lawOn 62 = .ok (.aload_n 2, 1) := by decide +kernel
theorem dX9_lawOn_63 : decode cX9_lawOn 63 = .ok (.areturn, 1) := by decide +kernel
theorem dX10_init_0 : decode cX10_init 0 = .ok (.aload_n 0, 1) := by decide +kernel
theorem dX10_init_1 : decode cX10_init 1 = .ok (.invokespecial 1, 3) := by decide +kernel
theorem dX10_init_4 : decode cX10_init 4 = .ok (.aload_n 0, 1) := by decide +kernel
theorem dX10_init_5 : decode cX10_init 5 = .ok (.bipush 100, 2) := by decide +kernel
theorem dX10_init_7 : decode cX10_init 7 = .ok (.putfield 7, 3) := by decide +kernel
theorem dX10_init_10 : decode cX10_init 10 = .ok (.aload_n 0, 1) := by decide +kernel
theorem dX10_init_11 : decode cX10_init 11 = .ok (.iconst 1, 1) := by decide +kernel
theorem dX10_init_12 : decode cX10_init 12 = .ok (.putfield 13, 3) := by decide +kernel
theorem dX10_init_15 : decode cX10_init 15 = .ok (.aload_n 0, 1) := by decide +kernel
theorem dX10_init_16 : decode cX10_init 16 = .ok (.bipush 10, 2) := by decide +kernel
theorem dX10_init_18 : decode cX10_init 18 = .ok (.putfield 16, 3) := by decide +kernel
theorem dX10_init_21 : decode cX10_init 21 = .ok (.aload_n 0, 1) := by decide +kernel
theorem dX10_init_22 : decode cX10_init 22 = .ok (.bipush 10, 2) := by decide +kernel
theorem dX10_init_24 : decode cX10_init 24 = .ok (.newarray .int, 2) := by decide +kernel
theorem dX10_init_26 : decode cX10_init 26 = .ok (.putfield 19, 3) := by decide +kernel
theorem dX10_init_29 : decode cX10_init 29 = .ok (.aload_n 0, 1) := by decide +kernel
theorem dX10_init_30 : decode cX10_init 30 = .ok (.bipush 10, 2) := by decide +kernel
theorem dX10_init_32 : decode cX10_init 32 = .ok (.newarray .int, 2) := by decide +kernel
theorem dX10_init_34 : decode cX10_init 34 = .ok (.putfield 23, 3) := by decide +kernel
theorem dX10_init_37 : decode cX10_init 37 = .ok (.aload_n 0, 1) := by decide +kernel
theorem dX10_init_38 : decode cX10_init 38 = .ok (.bipush 10, 2) := by decide +kernel
theorem dX10_init_40 : decode cX10_init 40 = .ok (.newarray .int, 2) := by decide +kernel
theorem dX10_init_42 : decode cX10_init 42 = .ok (.putfield 26, 3) := by decide +kernel
theorem dX10_init_45 : decode cX10_init 45 = .ok (.aload_n 0, 1) := by decide +kernel
theorem dX10_init_46 : decode cX10_init 46 = .ok (.bipush 10, 2) := by decide +kernel
theorem dX10_init_48 : decode cX10_init 48 = .ok (.newarray .boolean, 2) := by decide +kernel
theorem dX10_init_50 : decode cX10_init 50 = .ok (.putfield 29, 3) := by decide +kernel
theorem dX10_init_53 : decode cX10_init 53 = .ok (.aload_n 0, 1) := by decide +kernel
theorem dX10_init_54 : decode cX10_init 54 = .ok (.bipush 10, 2) := by decide +kernel
theorem dX10_init_56 : decode cX10_init 56 = .ok (.newarray .int, 2) := by decide +kernel
theorem dX10_init_58 : decode cX10_init 58 = .ok (.putfield 33, 3) := by decide +kernel
theorem dX10_init_61 : decode cX10_init 61 = .ok (.aload_n 0, 1) := by decide +kernel
theorem dX10_init_62 : decode cX10_init 62 = .ok (.bipush 10, 2) := by decide +kernel
theorem dX10_init_64 : decode cX10_init 64 = .ok (.newarray .int, 2) := by decide +kernel
theorem dX10_init_66 : decode cX10_init 66 = .ok (.putfield 36, 3) := by decide +kernel
theorem dX10_init_69 : decode cX10_init 69 = .ok (.aload_n 0, 1) := by decide +kernel
theorem dX10_init_70 : decode cX10_init 70 = .ok (.bipush 10, 2) := by decide +kernel
theorem dX10_init_72 : decode cX10_init 72 = .ok (.newarray .int, 2) := by decide +kernel
theorem dX10_init_74 : decode cX10_init 74 = .ok (.putfield 39, 3) := by decide +kernel
theorem dX10_init_77 : decode cX10_init 77 = .ok (.aload_n 0, 1) := by decide +kernel
theorem dX10_init_78 : decode cX10_init 78 = .ok (.bipush 10, 2) := by decide +kernel
theorem dX10_init_80 : decode cX10_init 80 = .ok (.newarray .boolean, 2) := by decide +kernel
theorem dX10_init_82 : decode cX10_init 82 = .ok (.putfield 42, 3) := by decide +kernel
theorem dX10_init_85 : decode cX10_init 85 = .ok (.aload_n 0, 1) := by decide +kernel
theorem dX10_init_86 : decode cX10_init 86 = .ok (.bipush 24, 2) := by decide +kernel
theorem dX10_init_88 : decode cX10_init 88 = .ok (.newarray .int, 2) := by decide +kernel
theorem dX10_init_90 : decode cX10_init 90 = .ok (.putfield 45, 3) := by decide +kernel
theorem dX10_init_93 : decode cX10_init 93 = .ok (.aload_n 0, 1) := by decide +kernel
theorem dX10_init_94 : decode cX10_init 94 = .ok (.bipush 24, 2) := by decide +kernel
theorem dX10_init_96 : decode cX10_init 96 = .ok (.newarray .int, 2) := by decide +kernel
theorem dX10_init_98 : decode cX10_init 98 = .ok (.putfield 48, 3) := by decide +kernel
theorem dX10_init_101 : decode cX10_init 101 = .ok (.aload_n 0, 1) := by decide +kernel
theorem dX10_init_102 : decode cX10_init 102 = .ok (.bipush 24, 2) := by decide +kernel
theorem dX10_init_104 : decode cX10_init 104 = .ok (.newarray .int, 2) := by decide +kernel
theorem dX10_init_106 : decode cX10_init 106 = .ok (.putfield 51, 3) := by decide +kernel
theorem dX10_init_109 : decode cX10_init 109 = .ok (.aload_n 0, 1) := by decide +kernel
theorem dX10_init_110 : decode cX10_init 110 = .ok (.bipush 24, 2) := by decide +kernel
theorem dX10_init_112 : decode cX10_init 112 = .ok (.newarray .int, 2) := by decide +kernel
theorem dX10_init_114 : decode cX10_init 114 = .ok (.putfield 54, 3) := by decide +kernel
theorem dX10_init_117 : decode cX10_init 117 = .ok (.aload_n 0, 1) := by decide +kernel
theorem dX10_init_118 : decode cX10_init 118 = .ok (.bipush 24, 2) := by decide +kernel
theorem dX10_init_120 : decode cX10_init 120 = .ok (.newarray .boolean, 2) := by decide +kernel
theorem dX10_init_122 : decode cX10_init 122 = .ok (.putfield 57, 3) := by decide +kernel
theorem dX10_init_125 : decode cX10_init 125 = .ok (.aload_n 0, 1) := by decide +kernel
theorem dX10_init_126 : decode cX10_init 126 = .ok (.bipush 24, 2) := by decide +kernel
theorem dX10_init_128 : decode cX10_init 128 = .ok (.newarray .int, 2) := by decide +kernel
theorem dX10_init_130 : decode cX10_init 130 = .ok (.putfield 60, 3) := by decide +kernel
theorem dX10_init_133 : decode cX10_init 133 = .ok (.aload_n 0, 1) := by decide +kernel
theorem dX10_init_134 : decode cX10_init 134 = .ok (.bipush 24, 2) := by decide +kernel
theorem dX10_init_136 : decode cX10_init 136 = .ok (.newarray .int, 2) := by decide +kernel
theorem dX10_init_138 : decode cX10_init 138 = .ok (.putfield 63, 3) := by decide +kernel
theorem dX10_init_141 : decode cX10_init 141 = .ok (.aload_n 0, 1) := by decide +kernel
theorem dX10_init_142 : decode cX10_init 142 = .ok (.bipush 24, 2) := by decide +kernel
theorem dX10_init_144 : decode cX10_init 144 = .ok (.newarray .int, 2) := by decide +kernel
theorem dX10_init_146 : decode cX10_init 146 = .ok (.putfield 66, 3) := by decide +kernel
theorem dX10_init_149 : decode cX10_init 149 = .ok (.aload_n 0, 1) := by decide +kernel
theorem dX10_init_150 : decode cX10_init 150 = .ok (.iconst 4, 1) := by decide +kernel
theorem dX10_init_151 : decode cX10_init 151 = .ok (.newarray .int, 2) := by decide +kernel
theorem dX10_init_153 : decode cX10_init 153 = .ok (.dup, 1) := by decide +kernel
theorem dX10_init_154 : decode cX10_init 154 = .ok (.iconst 0, 1) := by decide +kernel
theorem dX10_init_155 : decode cX10_init 155 = .ok (.iconst (-1), 1) := by decide +kernel
theorem dX10_init_156 : decode cX10_init 156 = .ok (.iastore, 1) := by decide +kernel
theorem dX10_init_157 : decode cX10_init 157 = .ok (.dup, 1) := by decide +kernel
theorem dX10_init_158 : decode cX10_init 158 = .ok (.iconst 1, 1) := by decide +kernel
theorem dX10_init_159 : decode cX10_init 159 = .ok (.iconst (-1), 1) := by decide +kernel
theorem dX10_init_160 : decode cX10_init 160 = .ok (.iastore, 1) := by decide +kernel
theorem dX10_init_161 : decode cX10_init 161 = .ok (.dup, 1) := by decide +kernel
theorem dX10_init_162 : decode cX10_init 162 = .ok (.iconst 2, 1) := by decide +kernel
theorem dX10_init_163 : decode cX10_init 163 = .ok (.iconst (-1), 1) := by decide +kernel
theorem dX10_init_164 : decode cX10_init 164 = .ok (.iastore, 1) := by decide +kernel
theorem dX10_init_165 : decode cX10_init 165 = .ok (.dup, 1) := by decide +kernel
theorem dX10_init_166 : decode cX10_init 166 = .ok (.iconst 3, 1) := by decide +kernel
theorem dX10_init_167 : decode cX10_init 167 = .ok (.iconst (-1), 1) := by decide +kernel
theorem dX10_init_168 : decode cX10_init 168 = .ok (.iastore, 1) := by decide +kernel
theorem dX10_init_169 : decode cX10_init 169 = .ok (.putfield 69, 3) := by decide +kernel
theorem dX10_init_172 : decode cX10_init 172 = .ok (.aload_n 0, 1) := by decide +kernel
theorem dX10_init_173 : decode cX10_init 173 = .ok (.bipush 96, 2) := by decide +kernel
theorem dX10_init_175 : decode cX10_init 175 = .ok (.newarray .int, 2) := by decide +kernel
theorem dX10_init_177 : decode cX10_init 177 = .ok (.putfield 72, 3) := by decide +kernel
theorem dX10_init_180 : decode cX10_init 180 = .ok (.aload_n 0, 1) := by decide +kernel
theorem dX10_init_181 : decode cX10_init 181 = .ok (.bipush 30, 2) := by decide +kernel
theorem dX10_init_183 : decode cX10_init 183 = .ok (.newarray .int, 2) := by decide +kernel
theorem dX10_init_185 : decode cX10_init 185 = .ok (.putfield 75, 3) := by decide +kernel
theorem dX10_init_188 : decode cX10_init 188 = .ok (.aload_n 0, 1) := by decide +kernel
theorem dX10_init_189 : decode cX10_init 189 = .ok (.bipush 30, 2) := by decide +kernel
theorem dX10_init_191 : decode cX10_init 191 = .ok (.newarray .int, 2) := by decide +kernel
theorem dX10_init_193 : decode cX10_init 193 = .ok (.putfield 78, 3) := by decide +kernel
theorem dX10_init_196 : decode cX10_init 196 = .ok (.aload_n 0, 1) := by decide +kernel
theorem dX10_init_197 : decode cX10_init 197 = .ok (.bipush 30, 2) := by decide +kernel
theorem dX10_init_199 : decode cX10_init 199 = .ok (.newarray .int, 2) := by decide +kernel
theorem dX10_init_201 : decode cX10_init 201 = .ok (.putfield 81, 3) := by decide +kernel
theorem dX10_init_204 : decode cX10_init 204 = .ok (.aload_n 0, 1) := by decide +kernel
theorem dX10_init_205 : decode cX10_init 205 = .ok (.bipush 30, 2) := by decide +kernel
theorem dX10_init_207 : decode cX10_init 207 = .ok (.newarray .int, 2) := by decide +kernel
theorem dX10_init_209 : decode cX10_init 209 = .ok (.putfield 84, 3) := by decide +kernel
theorem dX10_init_212 : decode cX10_init 212 = .ok (.aload_n 0, 1) := by decide +kernel
theorem dX10_init_213 : decode cX10_init 213 = .ok (.iconst 3, 1) := by decide +kernel
theorem dX10_init_214 : decode cX10_init 214 = .ok (.newarray .int, 2) := by decide +kernel
theorem dX10_init_216 : decode cX10_init 216 = .ok (.dup, 1) := by decide +kernel
theorem dX10_init_217 : decode cX10_init 217 = .ok (.iconst 0, 1) := by decide +kernel
theorem dX10_init_218 : decode cX10_init 218 = .ok (.iconst (-1), 1) := by decide +kernel
theorem dX10_init_219 : decode cX10_init 219 = .ok (.iastore, 1) := by decide +kernel
theorem dX10_init_220 : decode cX10_init 220 = .ok (.dup, 1) := by decide +kernel
theorem dX10_init_221 : decode cX10_init 221 = .ok (.iconst 1, 1) := by decide +kernel
theorem dX10_init_222 : decode cX10_init 222 = .ok (.iconst (-1), 1) := by decide +kernel
theorem dX10_init_223 : decode cX10_init 223 = .ok (.iastore, 1) := by decide +kernel
theorem dX10_init_224 : decode cX10_init 224 = .ok (.dup, 1) := by decide +kernel
theorem dX10_init_225 : decode cX10_init 225 = .ok (.iconst 2, 1) := by decide +kernel
theorem dX10_init_226 : decode cX10_init 226 = .ok (.iconst (-1), 1) := by decide +kernel
theorem dX10_init_227 : decode cX10_init 227 = .ok (.iastore, 1) := by decide +kernel
theorem dX10_init_228 : decode cX10_init 228 = .ok (.putfield 87, 3) := by decide +kernel
theorem dX10_init_231 : decode cX10_init 231 = .ok (.aload_n 0, 1) := by decide +kernel
theorem dX10_init_232 : decode cX10_init 232 = .ok (.bipush 40, 2) := by decide +kernel
theorem dX10_init_234 : decode cX10_init 234 = .ok (.newarray .int, 2) := by decide +kernel
theorem dX10_init_236 : decode cX10_init 236 = .ok (.putfield 90, 3) := by decide +kernel
theorem dX10_init_239 : decode cX10_init 239 = .ok (.aload_n 0, 1) := by decide +kernel
theorem dX10_init_240 : decode cX10_init 240 = .ok (.bipush 40, 2) := by decide +kernel
theorem dX10_init_242 : decode cX10_init 242 = .ok (.newarray .int, 2) := by decide +kernel
theorem dX10_init_244 : decode cX10_init 244 = .ok (.putfield 93, 3) := by decide +kernel
theorem dX10_init_247 : decode cX10_init 247 = .ok (.aload_n 0, 1) := by decide +kernel
theorem dX10_init_248 : decode cX10_init 248 = .ok (.bipush 40, 2) := by decide +kernel
theorem dX10_init_250 : decode cX10_init 250 = .ok (.newarray .int, 2) := by decide +kernel
theorem dX10_init_252 : decode cX10_init 252 = .ok (.putfield 96, 3) := by decide +kernel
theorem dX10_init_255 : decode cX10_init 255 = .ok (.aload_n 0, 1) := by decide +kernel
theorem dX10_init_256 : decode cX10_init 256 = .ok (.bipush 20, 2) := by decide +kernel
theorem dX10_init_258 : decode cX10_init 258 = .ok (.newarray .int, 2) := by decide +kernel
theorem dX10_init_260 : decode cX10_init 260 = .ok (.putfield 99, 3) := by decide +kernel
theorem dX10_init_263 : decode cX10_init 263 = .ok (.aload_n 0, 1) := by decide +kernel
theorem dX10_init_264 : decode cX10_init 264 = .ok (.bipush 20, 2) := by decide +kernel
theorem dX10_init_266 : decode cX10_init 266 = .ok (.newarray .int, 2) := by decide +kernel
theorem dX10_init_268 : decode cX10_init 268 = .ok (.putfield 102, 3) := by decide +kernel
theorem dX10_init_271 : decode cX10_init 271 = .ok (.aload_n 0, 1) := by decide +kernel
theorem dX10_init_272 : decode cX10_init 272 = .ok (.bipush 20, 2) := by decide +kernel
theorem dX10_init_274 : decode cX10_init 274 = .ok (.newarray .int, 2) := by decide +kernel
theorem dX10_init_276 : decode cX10_init 276 = .ok (.putfield 105, 3) := by decide +kernel
theorem dX10_init_279 : decode cX10_init 279 = .ok (.aload_n 0, 1) := by decide +kernel
theorem dX10_init_280 : decode cX10_init 280 = .ok (.bipush 20, 2) := by decide +kernel
theorem dX10_init_282 : decode cX10_init 282 = .ok (.newarray .int, 2) := by decide +kernel
theorem dX10_init_284 : decode cX10_init 284 = .ok (.putfield 108, 3) := by decide +kernel
theorem dX10_init_287 : decode cX10_init 287 = .ok (.aload_n 0, 1) := by decide +kernel
theorem dX10_init_288 : decode cX10_init 288 = .ok (.bipush 8, 2) := by decide +kernel
theorem dX10_init_290 : decode cX10_init 290 = .ok (.newarray .int, 2) := by decide +kernel
theorem dX10_init_292 : decode cX10_init 292 = .ok (.putfield 111, 3) := by decide +kernel
theorem dX10_init_295 : decode cX10_init 295 = .ok (.aload_n 0, 1) := by decide +kernel
theorem dX10_init_296 : decode cX10_init 296 = .ok (.bipush 24, 2) := by decide +kernel
theorem dX10_init_298 : decode cX10_init 298 = .ok (.newarray .int, 2) := by decide +kernel
theorem dX10_init_300 : decode cX10_init 300 = .ok (.putfield 114, 3) := by decide +kernel
theorem dX10_init_303 : decode cX10_init 303 = .ok (.aload_n 0, 1) := by decide +kernel
theorem dX10_init_304 : decode cX10_init 304 = .ok (.bipush 10, 2) := by decide +kernel
theorem dX10_init_306 : decode cX10_init 306 = .ok (.newarray .int, 2) := by decide +kernel
theorem dX10_init_308 : decode cX10_init 308 = .ok (.putfield 117, 3) := by decide +kernel
theorem dX10_init_311 : decode cX10_init 311 = .ok (.aload_n 0, 1) := by decide +kernel
theorem dX10_init_312 : decode cX10_init 312 = .ok (.bipush 6, 2) := by decide +kernel
theorem dX10_init_314 : decode cX10_init 314 = .ok (.newarray .int, 2) := by decide +kernel
theorem dX10_init_316 : decode cX10_init 316 = .ok (.putfield 120, 3) := by decide +kernel
theorem dX10_init_319 : decode cX10_init 319 = .ok (.aload_n 0, 1) := by decide +kernel
theorem dX10_init_320 : decode cX10_init 320 = .ok (.bipush 6, 2) := by decide +kernel
theorem dX10_init_322 : decode cX10_init 322 = .ok (.newarray .int, 2) := by decide +kernel
theorem dX10_init_324 : decode cX10_init 324 = .ok (.putfield 123, 3) := by decide +kernel
theorem dX10_init_327 : decode cX10_init 327 = .ok (.aload_n 0, 1) := by decide +kernel
theorem dX10_init_328 : decode cX10_init 328 = .ok (.bipush 6, 2) := by decide +kernel
theorem dX10_init_330 : decode cX10_init 330 = .ok (.newarray .int, 2) := by decide +kernel
theorem dX10_init_332 : decode cX10_init 332 = .ok (.putfield 126, 3) := by decide +kernel
theorem dX10_init_335 : decode cX10_init 335 = .ok (.aload_n 0, 1) := by decide +kernel
theorem dX10_init_336 : decode cX10_init 336 = .ok (.bipush 6, 2) := by decide +kernel
theorem dX10_init_338 : decode cX10_init 338 = .ok (.newarray .int, 2) := by decide +kernel
theorem dX10_init_340 : decode cX10_init 340 = .ok (.putfield 129, 3) := by decide +kernel
theorem dX10_init_343 : decode cX10_init 343 = .ok (.aload_n 0, 1) := by decide +kernel
theorem dX10_init_344 : decode cX10_init 344 = .ok (.bipush 7, 2) := by decide +kernel
theorem dX10_init_346 : decode cX10_init 346 = .ok (.newarray .int, 2) := by decide +kernel
theorem dX10_init_348 : decode cX10_init 348 = .ok (.putfield 132, 3) := by decide +kernel
theorem dX10_init_351 : decode cX10_init 351 = .ok (.return_, 1) := by decide +kernel
theorem dX10_in_0 : decode cX10_in 0 = .ok (.iload_n 0, 1) := by decide +kernel
theorem dX10_in_1 : decode cX10_in 1 = .ok (.iload_n 1, 1) := by decide +kernel
theorem dX10_in_2 : decode cX10_in 2 = .ok (.if_icmp .lt 12, 3) := by decide +kernel
theorem dX10_in_5 : decode cX10_in 5 = .ok (.iload_n 0, 1) := by decide +kernel
theorem dX10_in_6 : decode cX10_in 6 = .ok (.iload_n 2, 1) := by decide +kernel
theorem dX10_in_7 : decode cX10_in 7 = .ok (.if_icmp .gt 7, 3) := by decide +kernel
theorem dX10_in_10 : decode cX10_in 10 = .ok (.iconst 1, 1) := by decide +kernel
theorem dX10_in_11 : decode cX10_in 11 = .ok (.goto 4, 3) := by decide +kernel
theorem dX10_in_14 : decode cX10_in 14 = .ok (.iconst 0, 1) := by decide +kernel
theorem dX10_in_15 : decode cX10_in 15 = .ok (.ireturn, 1) := by decide +kernel
theorem dX10_refuse_0 : decode cX10_refuse 0 = .ok (.aload_n 0, 1) := by decide +kernel
theorem dX10_refuse_1 : decode cX10_refuse 1 = .ok (.getfield 111, 3) := by decide +kernel
theorem dX10_refuse_4 : decode cX10_refuse 4 = .ok (.iload_n 1, 1) := by decide +kernel
theorem dX10_refuse_5 : decode cX10_refuse 5 = .ok (.ineg, 1) := by decide +kernel
theorem dX10_refuse_6 : decode cX10_refuse 6 = .ok (.dup2, 1) := by decide +kernel
theorem dX10_refuse_7 : decode cX10_refuse 7 = .ok (.iaload, 1) := by decide +kernel
theorem dX10_refuse_8 : decode cX10_refuse 8 = .ok (.iconst 1, 1) := by decide +kernel
theorem dX10_refuse_9 : decode cX10_refuse 9 = .ok (.iadd, 1) := by decide +kernel
theorem dX10_refuse_10 : decode cX10_refuse 10 = .ok (.iastore, 1) := by decide +kernel
theorem dX10_refuse_11 : decode cX10_refuse 11 = .ok (.iload_n 1, 1) := by decide +kernel
theorem dX10_refuse_12 : decode cX10_refuse 12 = .ok (.ireturn, 1) := by decide +kernel
theorem dX10_least_0 : decode cX10_least 0 = .ok (.iload_n 0, 1) := by decide +kernel
theorem dX10_least_1 : decode cX10_least 1 = .ok (.iload_n 1, 1) := by decide +kernel
theorem dX10_least_2 : decode cX10_least 2 = .ok (.if_icmp .ge 7, 3) := by decide +kernel
theorem dX10_least_5 : decode cX10_least 5 = .ok (.iload_n 0, 1) := by decide +kernel
theorem dX10_least_6 : decode cX10_least 6 = .ok (.goto 4, 3) := by decide +kernel
theorem dX10_least_9 : decode cX10_least 9 = .ok (.iload_n 1, 1) := by decide +kernel
theorem dX10_least_10 : decode cX10_least 10 = .ok (.ireturn, 1) := by decide +kernel
theorem dX10_isStreet_0 : decode cX10_isStreet 0 = .ok (.iload_n 1, 1) := by decide +kernel
theorem dX10_isStreet_1 : decode cX10_isStreet 1 = .ok (.iconst 0, 1) := by decide +kernel
theorem dX10_isStreet_2 : decode cX10_isStreet 2 = .ok (.aload_n 0, 1) := by decide +kernel
theorem dX10_isStreet_3 : decode cX10_isStreet 3 = .ok (.getfield 135, 3) := by decide +kernel
theorem dX10_isStreet_6 : decode cX10_isStreet 6 = .ok (.iconst 1, 1) := by decide +kernel
theorem dX10_isStreet_7 : decode cX10_isStreet 7 = .ok (.isub, 1) := by decide +kernel
theorem dX10_isStreet_8 : decode cX10_isStreet 8 = .ok (.invokestatic 138, 3) := by decide +kernel
theorem dX10_isStreet_11 : decode cX10_isStreet 11 = .ok (.ireturn, 1) := by decide +kernel
theorem dX10_isHouse_0 : decode cX10_isHouse 0 = .ok (.iload_n 1, 1) := by decide +kernel
theorem dX10_isHouse_1 : decode cX10_isHouse 1 = .ok (.iconst 0, 1) := by decide +kernel
theorem dX10_isHouse_2 : decode cX10_isHouse 2 = .ok (.aload_n 0, 1) := by decide +kernel
theorem dX10_isHouse_3 : decode cX10_isHouse 3 = .ok (.getfield 142, 3) := by decide +kernel
theorem dX10_isHouse_6 : decode cX10_isHouse 6 = .ok (.iconst 1, 1) := by decide +kernel
theorem dX10_isHouse_7 : decode cX10_isHouse 7 = .ok (.isub, 1) := by decide +kernel
theorem dX10_isHouse_8 : decode cX10_isHouse 8 = .ok (.invokestatic 138, 3) := by decide +kernel
theorem dX10_isHouse_11 : decode cX10_isHouse 11 = .ok (.ireturn, 1) := by decide +kernel
theorem dX10_street_0 : decode cX10_street 0 = .ok (.iload_n 1, 1) := by decide +kernel
theorem dX10_street_1 : decode cX10_street 1 = .ok (.iconst (-1), 1) := by decide +kernel
theorem dX10_street_2 : decode cX10_street 2 = .ok (.aload_n 0, 1) := by decide +kernel
theorem dX10_street_3 : decode cX10_street 3 = .ok (.getfield 135, 3) := by decide +kernel
theorem dX10_street_6 : decode cX10_street 6 = .ok (.iconst 1, 1) := by decide +kernel
theorem dX10_street_7 : decode cX10_street 7 = .ok (.isub, 1) := by decide +kernel
theorem dX10_street_8 : decode cX10_street 8 = .ok (.invokestatic 138, 3) := by decide +kernel
theorem dX10_street_11 : decode cX10_street 11 = .ok (.ifCond .ne 9, 3) := by decide +kernel
theorem dX10_street_14 : decode cX10_street 14 = .ok (.aload_n 0, 1) := by decide +kernel
theorem dX10_street_15 : decode cX10_street 15 = .ok (.iconst (-1), 1) := by decide +kernel
theorem dX10_street_16 : decode cX10_street 16 = .ok (.invokevirtual 145, 3) := by decide +kernel
theorem dX10_street_19 : decode cX10_street 19 = .ok (.ireturn, 1) := by decide +kernel
theorem dX10_street_20 : decode cX10_street 20 = .ok (.iload_n 2, 1) := by decide +kernel
theorem dX10_street_21 : decode cX10_street 21 = .ok (.iconst 1, 1) := by decide +kernel
theorem dX10_street_22 : decode cX10_street 22 = .ok (.if_icmp .ge 10, 3) := by decide +kernel
theorem dX10_street_25 : decode cX10_street 25 = .ok (.aload_n 0, 1) := by decide +kernel
theorem dX10_street_26 : decode cX10_street 26 = .ok (.bipush (-4), 2) := by decide +kernel
theorem dX10_street_28 : decode cX10_street 28 = .ok (.invokevirtual 145, 3) := by decide +kernel
theorem dX10_street_31 : decode cX10_street 31 = .ok (.ireturn, 1) := by decide +kernel
theorem dX10_street_32 : decode cX10_street 32 = .ok (.iload_n 2, 1) := by decide +kernel
theorem dX10_street_33 : decode cX10_street 33 = .ok (.bipush 50, 2) := by decide +kernel
theorem dX10_street_35 : decode cX10_street 35 = .ok (.if_icmp .gt 12, 3) := by decide +kernel
theorem dX10_street_38 : decode cX10_street 38 = .ok (.aload_n 0, 1) := by decide +kernel
theorem dX10_street_39 : decode cX10_street 39 = .ok (.getfield 135, 3) := by decide +kernel
theorem dX10_street_42 : decode cX10_street 42 = .ok (.bipush 10, 2) := by decide +kernel
theorem dX10_street_44 : decode cX10_street 44 = .ok (.if_icmp .ne 10, 3) := by decide +kernel
theorem dX10_street_47 : decode cX10_street 47 = .ok (.aload_n 0, 1) := by decide +kernel
theorem dX10_street_48 : decode cX10_street 48 = .ok (.bipush (-6), 2) := by decide +kernel
theorem dX10_street_50 : decode cX10_street 50 = .ok (.invokevirtual 145, 3) := by decide +kernel
theorem dX10_street_53 : decode cX10_street 53 = .ok (.ireturn, 1) := by decide +kernel
theorem dX10_street_54 : decode cX10_street 54 = .ok (.aload_n 0, 1) := by decide +kernel
theorem dX10_street_55 : decode cX10_street 55 = .ok (.getfield 19, 3) := by decide +kernel
theorem dX10_street_58 : decode cX10_street 58 = .ok (.aload_n 0, 1) := by decide +kernel
theorem dX10_street_59 : decode cX10_street 59 = .ok (.getfield 135, 3) := by decide +kernel
theorem dX10_street_62 : decode cX10_street 62 = .ok (.iload_n 1, 1) := by decide +kernel
theorem dX10_street_63 : decode cX10_street 63 = .ok (.iastore, 1) := by decide +kernel
theorem dX10_street_64 : decode cX10_street 64 = .ok (.aload_n 0, 1) := by decide +kernel
theorem dX10_street_65 : decode cX10_street 65 = .ok (.getfield 23, 3) := by decide +kernel
theorem dX10_street_68 : decode cX10_street 68 = .ok (.aload_n 0, 1) := by decide +kernel
theorem dX10_street_69 : decode cX10_street 69 = .ok (.getfield 135, 3) := by decide +kernel
theorem dX10_street_72 : decode cX10_street 72 = .ok (.iload_n 2, 1) := by decide +kernel
theorem dX10_street_73 : decode cX10_street 73 = .ok (.iastore, 1) := by decide +kernel
theorem dX10_street_74 : decode cX10_street 74 = .ok (.aload_n 0, 1) := by decide +kernel
theorem dX10_street_75 : decode cX10_street 75 = .ok (.getfield 26, 3) := by decide +kernel
theorem dX10_street_78 : decode cX10_street 78 = .ok (.aload_n 0, 1) := by decide +kernel
theorem dX10_street_79 : decode cX10_street 79 = .ok (.getfield 135, 3) := by decide +kernel
theorem dX10_street_82 : decode cX10_street 82 = .ok (.aload_n 0, 1) := by decide +kernel
theorem dX10_street_83 : decode cX10_street 83 = .ok (.getfield 149, 3) := by decide +kernel
theorem dX10_street_86 : decode cX10_street 86 = .ok (.sipush 168, 3) := by decide +kernel
theorem dX10_street_89 : decode cX10_street 89 = .ok (.idiv, 1) := by decide +kernel
theorem dX10_street_90 : decode cX10_street 90 = .ok (.iastore, 1) := by decide +kernel
theorem dX10_street_91 : decode cX10_street 91 = .ok (.aload_n 0, 1) := by decide +kernel
theorem dX10_street_92 : decode cX10_street 92 = .ok (.dup, 1) := by decide +kernel
theorem dX10_street_93 : decode cX10_street 93 = .ok (.getfield 135, 3) := by decide +kernel
theorem dX10_street_96 : decode cX10_street 96 = .ok (.iconst 1, 1) := by decide +kernel
theorem dX10_street_97 : decode cX10_street 97 = .ok (.iadd, 1) := by decide +kernel
theorem dX10_street_98 : decode cX10_street 98 = .ok (.putfield 135, 3) := by decide +kernel
theorem dX10_street_101 : decode cX10_street 101 = .ok (.aload_n 0, 1) := by decide +kernel
theorem dX10_street_102 : decode cX10_street 102 = .ok (.getfield 135, 3) := by decide +kernel
theorem dX10_street_105 : decode cX10_street 105 = .ok (.iconst 1, 1) := by decide +kernel
theorem dX10_street_106 : decode cX10_street 106 = .ok (.isub, 1) := by decide +kernel
theorem dX10_street_107 : decode cX10_street 107 = .ok (.ireturn, 1) := by decide +kernel
theorem dX10_set_0 : decode cX10_set 0 = .ok (.iload_n 1, 1) := by decide +kernel
theorem dX10_set_1 : decode cX10_set 1 = .ok (.iconst 0, 1) := by decide +kernel
theorem dX10_set_2 : decode cX10_set 2 = .ok (.iconst 2, 1) := by decide +kernel
theorem dX10_set_3 : decode cX10_set 3 = .ok (.invokestatic 138, 3) := by decide +kernel
theorem dX10_set_6 : decode cX10_set 6 = .ok (.ifCond .ne 10, 3) := by decide +kernel
theorem dX10_set_9 : decode cX10_set 9 = .ok (.aload_n 0, 1) := by decide +kernel
theorem dX10_set_10 : decode cX10_set 10 = .ok (.bipush (-2), 2) := by decide +kernel
theorem dX10_set_12 : decode cX10_set 12 = .ok (.invokevirtual 145, 3) := by decide +kernel
theorem dX10_set_15 : decode cX10_set 15 = .ok (.ireturn, 1) := by decide +kernel
theorem dX10_set_16 : decode cX10_set 16 = .ok (.iload_n 2, 1) := by decide +kernel
theorem dX10_set_17 : decode cX10_set 17 = .ok (.iload_n 1, 1) := by decide +kernel
theorem dX10_set_18 : decode cX10_set 18 = .ok (.iconst 2, 1) := by decide +kernel
theorem dX10_set_19 : decode cX10_set 19 = .ok (.if_icmp .ne 7, 3) := by decide +kernel
theorem dX10_set_22 : decode cX10_set 22 = .ok (.iconst 1, 1) := by decide +kernel
theorem dX10_set_23 : decode cX10_set 23 = .ok (.goto 4, 3) := by decide +kernel
theorem dX10_set_26 : decode cX10_set 26 = .ok (.iconst 0, 1) := by decide +kernel
theorem dX10_set_27 : decode cX10_set 27 = .ok (.if_icmp .ge 10, 3) := by decide +kernel
theorem dX10_set_30 : decode cX10_set 30 = .ok (.aload_n 0, 1) := by decide +kernel
theorem dX10_set_31 : decode cX10_set 31 = .ok (.bipush (-4), 2) := by decide +kernel
theorem dX10_set_33 : decode cX10_set 33 = .ok (.invokevirtual 145, 3) := by decide +kernel
theorem dX10_set_36 : decode cX10_set 36 = .ok (.ireturn, 1) := by decide +kernel
theorem dX10_set_37 : decode cX10_set 37 = .ok (.iload_n 2, 1) := by decide +kernel
theorem dX10_set_38 : decode cX10_set 38 = .ok (.iload_n 1, 1) := by decide +kernel
theorem dX10_set_39 : decode cX10_set 39 = .ok (.ifCond .ne 9, 3) := by decide +kernel
theorem dX10_set_42 : decode cX10_set 42 = .ok (.sipush 5000, 3) := by decide +kernel
theorem dX10_set_45 : decode cX10_set 45 = .ok (.goto 15, 3) := by decide +kernel
theorem dX10_set_48 : decode cX10_set 48 = .ok (.iload_n 1, 1) := by decide +kernel
theorem dX10_set_49 : decode cX10_set 49 = .ok (.iconst 1, 1) := by decide +kernel
theorem dX10_set_50 : decode cX10_set 50 = .ok (.if_icmp .ne 8, 3) := by decide +kernel
theorem dX10_set_53 : decode cX10_set 53 = .ok (.bipush 50, 2) := by decide +kernel
theorem dX10_set_55 : decode cX10_set 55 = .ok (.goto 5, 3) := by decide +kernel
theorem dX10_set_58 : decode cX10_set 58 = .ok (.bipush 99, 2) := by decide +kernel
theorem dX10_set_60 : decode cX10_set 60 = .ok (.if_icmp .le 10, 3) := by decide +kernel
theorem dX10_set_63 : decode cX10_set 63 = .ok (.aload_n 0, 1) := by decide +kernel
theorem dX10_set_64 : decode cX10_set 64 = .ok (.bipush (-6), 2) := by decide +kernel
theorem dX10_set_66 : decode cX10_set 66 = .ok (.invokevirtual 145, 3) := by decide +kernel
theorem dX10_set_69 : decode cX10_set 69 = .ok (.ireturn, 1) := by decide +kernel
theorem dX10_set_70 : decode cX10_set 70 = .ok (.iload_n 1, 1) := by decide +kernel
theorem dX10_set_71 : decode cX10_set 71 = .ok (.ifCond .ne 10, 3) := by decide +kernel
theorem dX10_set_74 : decode cX10_set 74 = .ok (.aload_n 0, 1) := by decide +kernel
theorem dX10_set_75 : decode cX10_set 75 = .ok (.getfield 7, 3) := by decide +kernel
theorem dX10_set_78 : decode cX10_set 78 = .ok (.goto 19, 3) := by decide +kernel
theorem dX10_set_81 : decode cX10_set 81 = .ok (.iload_n 1, 1) := by decide +kernel
theorem dX10_set_82 : decode cX10_set 82 = .ok (.iconst 1, 1) := by decide +kernel
theorem dX10_set_83 : decode cX10_set 83 = .ok (.if_icmp .ne 10, 3) := by decide +kernel
theorem dX10_set_86 : decode cX10_set 86 = .ok (.aload_n 0, 1) := by decide +kernel
theorem dX10_set_87 : decode cX10_set 87 = .ok (.getfield 13, 3) := by decide +kernel
theorem dX10_set_90 : decode cX10_set 90 = .ok (.goto 7, 3) := by decide +kernel
theorem dX10_set_93 : decode cX10_set 93 = .ok (.aload_n 0, 1) := by decide +kernel
theorem dX10_set_94 : decode cX10_set 94 = .ok (.getfield 16, 3) := by decide +kernel
theorem dX10_set_97 : decode cX10_set 97 = .ok (.istore_n 3, 1) := by decide +kernel
theorem dX10_set_98 : decode cX10_set 98 = .ok (.aload_n 0, 1) := by decide +kernel
theorem dX10_set_99 : decode cX10_set 99 = .ok (.iload_n 1, 1) := by decide +kernel
theorem dX10_set_100 : decode cX10_set 100 = .ok (.ifCond .ne 7, 3) := by decide +kernel
theorem dX10_set_103 : decode cX10_set 103 = .ok (.iload_n 2, 1) := by decide +kernel
theorem dX10_set_104 : decode cX10_set 104 = .ok (.goto 7, 3) := by decide +kernel
theorem dX10_set_107 : decode cX10_set 107 = .ok (.aload_n 0, 1) := by decide +kernel
theorem dX10_set_108 : decode cX10_set 108 = .ok (.getfield 7, 3) := by decide +kernel
theorem dX10_set_111 : decode cX10_set 111 = .ok (.putfield 7, 3) := by decide +kernel
theorem dX10_set_114 : decode cX10_set 114 = .ok (.aload_n 0, 1) := by decide +kernel
theorem dX10_set_115 : decode cX10_set 115 = .ok (.iload_n 1, 1) := by decide +kernel
theorem dX10_set_116 : decode cX10_set 116 = .ok (.iconst 1, 1) := by decide +kernel
theorem dX10_set_117 : decode cX10_set 117 = .ok (.if_icmp .ne 7, 3) := by decide +kernel
theorem dX10_set_120 : decode cX10_set 120 = .ok (.iload_n 2, 1) := by decide +kernel
theorem dX10_set_121 : decode cX10_set 121 = .ok (.goto 7, 3) := by decide +kernel
theorem dX10_set_124 : decode cX10_set 124 = .ok (.aload_n 0, 1) := by decide +kernel
theorem dX10_set_125 : decode cX10_set 125 = .ok (.getfield 13, 3) := by decide +kernel
theorem dX10_set_128 : decode cX10_set 128 = .ok (.putfield 13, 3) := by decide +kernel
theorem dX10_set_131 : decode cX10_set 131 = .ok (.aload_n 0, 1) := by decide +kernel
theorem dX10_set_132 : decode cX10_set 132 = .ok (.iload_n 1, 1) := by decide +kernel
theorem dX10_set_133 : decode cX10_set 133 = .ok (.iconst 2, 1) := by decide +kernel
theorem dX10_set_134 : decode cX10_set 134 = .ok (.if_icmp .ne 7, 3) := by decide +kernel
theorem dX10_set_137 : decode cX10_set 137 = .ok (.iload_n 2, 1) := by decide +kernel
theorem dX10_set_138 : decode cX10_set 138 = .ok (.goto 7, 3) := by decide +kernel
theorem dX10_set_141 : decode cX10_set 141 = .ok (.aload_n 0, 1) := by decide +kernel
theorem dX10_set_142 : decode cX10_set 142 = .ok (.getfield 16, 3) := by decide +kernel
theorem dX10_set_145 : decode cX10_set 145 = .ok (.putfield 16, 3) := by decide +kernel
theorem dX10_set_148 : decode cX10_set 148 = .ok (.iload_n 3, 1) := by decide +kernel
theorem dX10_set_149 : decode cX10_set 149 = .ok (.ireturn, 1) := by decide +kernel
theorem dX10_coal_0 : decode cX10_coal 0 = .ok (.iload_n 1, 1) := by decide +kernel
theorem dX10_coal_1 : decode cX10_coal 1 = .ok (.ifCond .ge 10, 3) := by decide +kernel
theorem dX10_coal_4 : decode cX10_coal 4 = .ok (.aload_n 0, 1) := by decide +kernel
theorem dX10_coal_5 : decode cX10_coal 5 = .ok (.bipush (-4), 2) := by decide +kernel
theorem dX10_coal_7 : decode cX10_coal 7 = .ok (.invokevirtual 145, 3) := by decide +kernel
theorem dX10_coal_10 : decode cX10_coal 10 = .ok (.ireturn, 1) := by decide +kernel
theorem dX10_coal_11 : decode cX10_coal 11 = .ok (.iload_n 1, 1) := by decide +kernel
theorem dX10_coal_12 : decode cX10_coal 12 = .ok (.ldc 152, 2) := by decide +kernel
theorem dX10_coal_14 : decode cX10_coal 14 = .ok (.aload_n 0, 1) := by decide +kernel
theorem dX10_coal_15 : decode cX10_coal 15 = .ok (.getfield 153, 3) := by decide +kernel
theorem dX10_coal_18 : decode cX10_coal 18 = .ok (.isub, 1) := by decide +kernel
theorem dX10_coal_19 : decode cX10_coal 19 = .ok (.if_icmp .le 10, 3) := by decide +kernel
theorem dX10_coal_22 : decode cX10_coal 22 = .ok (.aload_n 0, 1) := by decide +kernel
theorem dX10_coal_23 : decode cX10_coal 23 = .ok (.bipush (-6), 2) := by decide +kernel
theorem dX10_coal_25 : decode cX10_coal 25 = .ok (.invokevirtual 145, 3) := by decide +kernel
theorem dX10_coal_28 : decode cX10_coal 28 = .ok (.ireturn, 1) := by decide +kernel
theorem dX10_coal_29 : decode cX10_coal 29 = .ok (.aload_n 0, 1) := by decide +kernel
theorem dX10_coal_30 : decode cX10_coal 30 = .ok (.dup, 1) := by decide +kernel
theorem dX10_coal_31 : decode cX10_coal 31 = .ok (.getfield 153, 3) := by decide +kernel
theorem dX10_coal_34 : decode cX10_coal 34 = .ok (.iload_n 1, 1) := by decide +kernel
theorem dX10_coal_35 : decode cX10_coal 35 = .ok (.iadd, 1) := by decide +kernel
theorem dX10_coal_36 : decode cX10_coal 36 = .ok (.putfield 153, 3) := by decide +kernel
theorem dX10_coal_39 : decode cX10_coal 39 = .ok (.aload_n 0, 1) := by decide +kernel
theorem dX10_coal_40 : decode cX10_coal 40 = .ok (.getfield 153, 3) := by decide +kernel
theorem dX10_coal_43 : decode cX10_coal 43 = .ok (.ireturn, 1) := by decide +kernel
theorem dX10_house_0 : decode cX10_house 0 = .ok (.aload_n 0, 1) := by decide +kernel
theorem dX10_house_1 : decode cX10_house 1 = .ok (.iload_n 1, 1) := by decide +kernel
theorem dX10_house_2 : decode cX10_house 2 = .ok (.invokevirtual 156, 3) := by decide +kernel
theorem dX10_house_5 : decode cX10_house 5 = .ok (.ifCond .ne 9, 3) := by decide +kernel
theorem dX10_house_8 : decode cX10_house 8 = .ok (.aload_n 0, 1) := by decide +kernel
theorem dX10_house_9 : decode cX10_house 9 = .ok (.iconst (-1), 1) := by decide +kernel
theorem dX10_house_10 : decode cX10_house 10 = .ok (.invokevirtual 145, 3) := by decide +kernel
theorem dX10_house_13 : decode cX10_house 13 = .ok (.ireturn, 1) := by decide +kernel
theorem dX10_house_14 : decode cX10_house 14 = .ok (.iload_n 2, 1) := by decide +kernel
theorem dX10_house_15 : decode cX10_house 15 = .ok (.bipush 10, 2) := by decide +kernel
theorem dX10_house_17 : decode cX10_house 17 = .ok (.if_icmp .lt 12, 3) := by decide +kernel
theorem dX10_house_20 : decode cX10_house 20 = .ok (.iload_n 3, 1) := by decide +kernel
theorem dX10_house_21 : decode cX10_house 21 = .ok (.ifCond .lt 8, 3) := by decide +kernel
theorem dX10_house_24 : decode cX10_house 24 = .ok (.iload 4, 2) := by decide +kernel
theorem dX10_house_26 : decode cX10_house 26 = .ok (.ifCond .ge 10, 3) := by decide +kernel
theorem dX10_house_29 : decode cX10_house 29 = .ok (.aload_n 0, 1) := by decide +kernel
theorem dX10_house_30 : decode cX10_house 30 = .ok (.bipush (-4), 2) := by decide +kernel
theorem dX10_house_32 : decode cX10_house 32 = .ok (.invokevirtual 145, 3) := by decide +kernel
theorem dX10_house_35 : decode cX10_house 35 = .ok (.ireturn, 1) := by decide +kernel
theorem dX10_house_36 : decode cX10_house 36 = .ok (.iload_n 2, 1) := by decide +kernel
theorem dX10_house_37 : decode cX10_house 37 = .ok (.sipush 500, 3) := by decide +kernel
theorem dX10_house_40 : decode cX10_house 40 = .ok (.if_icmp .gt 25, 3) := by decide +kernel
theorem dX10_house_43 : decode cX10_house 43 = .ok (.iload_n 3, 1) := by decide +kernel
theorem dX10_house_44 : decode cX10_house 44 = .ok (.bipush 9, 2) := by decide +kernel
theorem dX10_house_46 : decode cX10_house 46 = .ok (.if_icmp .gt 19, 3) := by decide +kernel
theorem dX10_house_49 : decode cX10_house 49 = .ok (.iload 4, 2) := by decide +kernel
theorem dX10_house_51 : decode cX10_house 51 = .ok (.bipush 20, 2) := by decide +kernel
theorem dX10_house_53 : decode cX10_house 53 = .ok (.if_icmp .gt 12, 3) := by decide +kernel
theorem dX10_house_56 : decode cX10_house 56 = .ok (.aload_n 0, 1) := by decide +kernel
theorem dX10_house_57 : decode cX10_house 57 = .ok (.getfield 142, 3) := by decide +kernel
theorem dX10_house_60 : decode cX10_house 60 = .ok (.bipush 24, 2) := by decide +kernel
theorem dX10_house_62 : decode cX10_house 62 = .ok (.if_icmp .ne 10, 3) := by decide +kernel
theorem dX10_house_65 : decode cX10_house 65 = .ok (.aload_n 0, 1) := by decide +kernel
theorem dX10_house_66 : decode cX10_house 66 = .ok (.bipush (-6), 2) := by decide +kernel
theorem dX10_house_68 : decode cX10_house 68 = .ok (.invokevirtual 145, 3) := by decide +kernel
theorem dX10_house_71 : decode cX10_house 71 = .ok (.ireturn, 1) := by decide +kernel
theorem dX10_house_72 : decode cX10_house 72 = .ok (.aload_n 0, 1) := by decide +kernel
theorem dX10_house_73 : decode cX10_house 73 = .ok (.getfield 45, 3) := by decide +kernel
theorem dX10_house_76 : decode cX10_house 76 = .ok (.aload_n 0, 1) := by decide +kernel
theorem dX10_house_77 : decode cX10_house 77 = .ok (.getfield 142, 3) := by decide +kernel
theorem dX10_house_80 : decode cX10_house 80 = .ok (.iload_n 1, 1) := by decide +kernel
theorem dX10_house_81 : decode cX10_house 81 = .ok (.iastore, 1) := by decide +kernel
theorem dX10_house_82 : decode cX10_house 82 = .ok (.aload_n 0, 1) := by decide +kernel
theorem dX10_house_83 : decode cX10_house 83 = .ok (.getfield 48, 3) := by decide +kernel
theorem dX10_house_86 : decode cX10_house 86 = .ok (.aload_n 0, 1) := by decide +kernel
theorem dX10_house_87 : decode cX10_house 87 = .ok (.getfield 142, 3) := by decide +kernel
theorem dX10_house_90 : decode cX10_house 90 = .ok (.iload_n 2, 1) := by decide +kernel
theorem dX10_house_91 : decode cX10_house 91 = .ok (.iastore, 1) := by decide +kernel
theorem dX10_house_92 : decode cX10_house 92 = .ok (.aload_n 0, 1) := by decide +kernel
theorem dX10_house_93 : decode cX10_house 93 = .ok (.getfield 51, 3) := by decide +kernel
theorem dX10_house_96 : decode cX10_house 96 = .ok (.aload_n 0, 1) := by decide +kernel
theorem dX10_house_97 : decode cX10_house 97 = .ok (.getfield 142, 3) := by decide +kernel
theorem dX10_house_100 : decode cX10_house 100 = .ok (.iload_n 3, 1) := by decide +kernel
theorem dX10_house_101 : decode cX10_house 101 = .ok (.iastore, 1) := by decide +kernel
theorem dX10_house_102 : decode cX10_house 102 = .ok (.aload_n 0, 1) := by decide +kernel
theorem dX10_house_103 : decode cX10_house 103 = .ok (.getfield 54, 3) := by decide +kernel
theorem dX10_house_106 : decode cX10_house 106 = .ok (.aload_n 0, 1) := by decide +kernel
theorem dX10_house_107 : decode cX10_house 107 = .ok (.getfield 142, 3) := by decide +kernel
theorem dX10_house_110 : decode cX10_house 110 = .ok (.iload 4, 2) := by decide +kernel
theorem dX10_house_112 : decode cX10_house 112 = .ok (.iastore, 1) := by decide +kernel
theorem dX10_house_113 : decode cX10_house 113 = .ok (.aload_n 0, 1) := by decide +kernel
theorem dX10_house_114 : decode cX10_house 114 = .ok (.getfield 57, 3) := by decide +kernel
theorem dX10_house_117 : decode cX10_house 117 = .ok (.aload_n 0, 1) := by decide +kernel
theorem dX10_house_118 : decode cX10_house 118 = .ok (.getfield 142, 3) := by decide +kernel
theorem dX10_house_121 : decode cX10_house 121 = .ok (.iload 5, 2) := by decide +kernel
theorem dX10_house_123 : decode cX10_house 123 = .ok (.bastore, 1) := by decide +kernel
theorem dX10_house_124 : decode cX10_house 124 = .ok (.aload_n 0, 1) := by decide +kernel
theorem dX10_house_125 : decode cX10_house 125 = .ok (.getfield 60, 3) := by decide +kernel
theorem dX10_house_128 : decode cX10_house 128 = .ok (.aload_n 0, 1) := by decide +kernel
theorem dX10_house_129 : decode cX10_house 129 = .ok (.getfield 142, 3) := by decide +kernel
theorem dX10_house_132 : decode cX10_house 132 = .ok (.iconst (-1), 1) := by decide +kernel
theorem dX10_house_133 : decode cX10_house 133 = .ok (.iastore, 1) := by decide +kernel
theorem dX10_house_134 : decode cX10_house 134 = .ok (.aload_n 0, 1) := by decide +kernel
theorem dX10_house_135 : decode cX10_house 135 = .ok (.dup, 1) := by decide +kernel
theorem dX10_house_136 : decode cX10_house 136 = .ok (.getfield 142, 3) := by decide +kernel
theorem dX10_house_139 : decode cX10_house 139 = .ok (.iconst 1, 1) := by decide +kernel
theorem dX10_house_140 : decode cX10_house 140 = .ok (.iadd, 1) := by decide +kernel
theorem dX10_house_141 : decode cX10_house 141 = .ok (.putfield 142, 3) := by decide +kernel
theorem dX10_house_144 : decode cX10_house 144 = .ok (.aload_n 0, 1) := by decide +kernel
theorem dX10_house_145 : decode cX10_house 145 = .ok (.getfield 142, 3) := by decide +kernel
theorem dX10_house_148 : decode cX10_house 148 = .ok (.iconst 1, 1) := by decide +kernel
theorem dX10_house_149 : decode cX10_house 149 = .ok (.isub, 1) := by decide +kernel
theorem dX10_house_150 : decode cX10_house 150 = .ok (.ireturn, 1) := by decide +kernel
theorem dX10_row_0 : decode cX10_row 0 = .ok (.iload_n 1, 1) := by decide +kernel
theorem dX10_row_1 : decode cX10_row 1 = .ok (.iconst 0, 1) := by decide +kernel
theorem dX10_row_2 : decode cX10_row 2 = .ok (.iconst 3, 1) := by decide +kernel
theorem dX10_row_3 : decode cX10_row 3 = .ok (.invokestatic 138, 3) := by decide +kernel
theorem dX10_row_6 : decode cX10_row 6 = .ok (.ifCond .ne 9, 3) := by decide +kernel
theorem dX10_row_9 : decode cX10_row 9 = .ok (.aload_n 0, 1) := by decide +kernel
theorem dX10_row_10 : decode cX10_row 10 = .ok (.iconst (-1), 1) := by decide +kernel
theorem dX10_row_11 : decode cX10_row 11 = .ok (.invokevirtual 145, 3) := by decide +kernel
theorem dX10_row_14 : decode cX10_row 14 = .ok (.ireturn, 1) := by decide +kernel
theorem dX10_row_15 : decode cX10_row 15 = .ok (.iload_n 2, 1) := by decide +kernel
theorem dX10_row_16 : decode cX10_row 16 = .ok (.ifCond .ge 10, 3) := by decide +kernel
theorem dX10_row_19 : decode cX10_row 19 = .ok (.aload_n 0, 1) := by decide +kernel
theorem dX10_row_20 : decode cX10_row 20 = .ok (.bipush (-4), 2) := by decide +kernel
theorem dX10_row_22 : decode cX10_row 22 = .ok (.invokevirtual 145, 3) := by decide +kernel
theorem dX10_row_25 : decode cX10_row 25 = .ok (.ireturn, 1) := by decide +kernel
theorem dX10_row_26 : decode cX10_row 26 = .ok (.iload_n 2, 1) := by decide +kernel
theorem dX10_row_27 : decode cX10_row 27 = .ok (.bipush 24, 2) := by decide +kernel
theorem dX10_row_29 : decode cX10_row 29 = .ok (.if_icmp .le 10, 3) := by decide +kernel
theorem dX10_row_32 : decode cX10_row 32 = .ok (.aload_n 0, 1) := by decide +kernel
theorem dX10_row_33 : decode cX10_row 33 = .ok (.bipush (-6), 2) := by decide +kernel
theorem dX10_row_35 : decode cX10_row 35 = .ok (.invokevirtual 145, 3) := by decide +kernel
theorem dX10_row_38 : decode cX10_row 38 = .ok (.ireturn, 1) := by decide +kernel
theorem dX10_row_39 : decode cX10_row 39 = .ok (.aload_n 0, 1) := by decide +kernel
theorem dX10_row_40 : decode cX10_row 40 = .ok (.getfield 69, 3) := by decide +kernel
theorem dX10_row_43 : decode cX10_row 43 = .ok (.iload_n 1, 1) := by decide +kernel
theorem dX10_row_44 : decode cX10_row 44 = .ok (.iload_n 2, 1) := by decide +kernel
theorem dX10_row_45 : decode cX10_row 45 = .ok (.iastore, 1) := by decide +kernel
theorem dX10_row_46 : decode cX10_row 46 = .ok (.iconst 0, 1) := by decide +kernel
theorem dX10_row_47 : decode cX10_row 47 = .ok (.istore_n 3, 1) := by decide +kernel
theorem dX10_row_48 : decode cX10_row 48 = .ok (.iload_n 3, 1) := by decide +kernel
theorem dX10_row_49 : decode cX10_row 49 = .ok (.iload_n 2, 1) := by decide +kernel
theorem dX10_row_50 : decode cX10_row 50 = .ok (.if_icmp .ge 21, 3) := by decide +kernel
theorem dX10_row_53 : decode cX10_row 53 = .ok (.aload_n 0, 1) := by decide +kernel
theorem dX10_row_54 : decode cX10_row 54 = .ok (.getfield 72, 3) := by decide +kernel
theorem dX10_row_57 : decode cX10_row 57 = .ok (.bipush 24, 2) := by decide +kernel
theorem dX10_row_59 : decode cX10_row 59 = .ok (.iload_n 1, 1) := by decide +kernel
theorem dX10_row_60 : decode cX10_row 60 = .ok (.imul, 1) := by decide +kernel
theorem dX10_row_61 : decode cX10_row 61 = .ok (.iload_n 3, 1) := by decide +kernel
theorem dX10_row_62 : decode cX10_row 62 = .ok (.iadd, 1) := by decide +kernel
theorem dX10_row_63 : decode cX10_row 63 = .ok (.iconst 0, 1) := by decide +kernel
theorem dX10_row_64 : decode cX10_row 64 = .ok (.iastore, 1) := by decide +kernel
theorem dX10_row_65 : decode cX10_row 65 = .ok (.iinc 3 1, 3) := by decide +kernel
theorem dX10_row_68 : decode cX10_row 68 = .ok (.goto (-20), 3) := by decide +kernel
theorem dX10_row_71 : decode cX10_row 71 = .ok (.iload_n 2, 1) := by decide +kernel
theorem dX10_row_72 : decode cX10_row 72 = .ok (.ireturn, 1) := by decide +kernel
theorem dX10_lose_0 : decode cX10_lose 0 = .ok (.iload_n 1, 1) := by decide +kernel
theorem dX10_lose_1 : decode cX10_lose 1 = .ok (.iconst 0, 1) := by decide +kernel
theorem dX10_lose_2 : decode cX10_lose 2 = .ok (.iconst 3, 1) := by decide +kernel
theorem dX10_lose_3 : decode cX10_lose 3 = .ok (.invokestatic 138, 3) := by decide +kernel
theorem dX10_lose_6 : decode cX10_lose 6 = .ok (.ifCond .ne 9, 3) := by decide +kernel
theorem dX10_lose_9 : decode cX10_lose 9 = .ok (.aload_n 0, 1) := by decide +kernel
theorem dX10_lose_10 : decode cX10_lose 10 = .ok (.iconst (-1), 1) := by decide +kernel
theorem dX10_lose_11 : decode cX10_lose 11 = .ok (.invokevirtual 145, 3) := by decide +kernel
theorem dX10_lose_14 : decode cX10_lose 14 = .ok (.ireturn, 1) := by decide +kernel
theorem dX10_lose_15 : decode cX10_lose 15 = .ok (.aload_n 0, 1) := by decide +kernel
theorem dX10_lose_16 : decode cX10_lose 16 = .ok (.getfield 69, 3) := by decide +kernel
theorem dX10_lose_19 : decode cX10_lose 19 = .ok (.iload_n 1, 1) := by decide +kernel
theorem dX10_lose_20 : decode cX10_lose 20 = .ok (.iaload, 1) := by decide +kernel
theorem dX10_lose_21 : decode cX10_lose 21 = .ok (.istore_n 2, 1) := by decide +kernel
theorem dX10_lose_22 : decode cX10_lose 22 = .ok (.aload_n 0, 1) := by decide +kernel
theorem dX10_lose_23 : decode cX10_lose 23 = .ok (.getfield 69, 3) := by decide +kernel
theorem dX10_lose_26 : decode cX10_lose 26 = .ok (.iload_n 1, 1) := by decide +kernel
theorem dX10_lose_27 : decode cX10_lose 27 = .ok (.iconst (-1), 1) := by decide +kernel
theorem dX10_lose_28 : decode cX10_lose 28 = .ok (.iastore, 1) := by decide +kernel
theorem dX10_lose_29 : decode cX10_lose 29 = .ok (.iload_n 2, 1) := by decide +kernel
theorem dX10_lose_30 : decode cX10_lose 30 = .ok (.ifCond .ge 7, 3) := by decide +kernel
theorem dX10_lose_33 : decode cX10_lose 33 = .ok (.iconst 0, 1) := by decide +kernel
theorem dX10_lose_34 : decode cX10_lose 34 = .ok (.goto 4, 3) := by decide +kernel
theorem dX10_lose_37 : decode cX10_lose 37 = .ok (.iconst 1, 1) := by decide +kernel
theorem dX10_lose_38 : decode cX10_lose 38 = .ok (.ireturn, 1) := by decide +kernel
theorem dX10_put_0 : decode cX10_put 0 = .ok (.iload_n 1, 1) := by decide +kernel
theorem dX10_put_1 : decode cX10_put 1 = .ok (.iconst 0, 1) := by decide +kernel
theorem dX10_put_2 : decode cX10_put 2 = .ok (.iconst 3, 1) := by decide +kernel
theorem dX10_put_3 : decode cX10_put 3 = .ok (.invokestatic 138, 3) := by decide +kernel
theorem dX10_put_6 : decode cX10_put 6 = .ok (.ifCond .ne 9, 3) := by decide +kernel
theorem dX10_put_9 : decode cX10_put 9 = .ok (.aload_n 0, 1) := by decide +kernel
theorem dX10_put_10 : decode cX10_put 10 = .ok (.iconst (-1), 1) := by decide +kernel
theorem dX10_put_11 : decode cX10_put 11 = .ok (.invokevirtual 145, 3) := by decide +kernel
theorem dX10_put_14 : decode cX10_put 14 = .ok (.ireturn, 1) := by decide +kernel
theorem dX10_put_15 : decode cX10_put 15 = .ok (.aload_n 0, 1) := by decide +kernel
theorem dX10_put_16 : decode cX10_put 16 = .ok (.getfield 69, 3) := by decide +kernel
theorem dX10_put_19 : decode cX10_put 19 = .ok (.iload_n 1, 1) := by decide +kernel
theorem dX10_put_20 : decode cX10_put 20 = .ok (.iaload, 1) := by decide +kernel
theorem dX10_put_21 : decode cX10_put 21 = .ok (.ifCond .ge 10, 3) := by decide +kernel
theorem dX10_put_24 : decode cX10_put 24 = .ok (.aload_n 0, 1) := by decide +kernel
theorem dX10_put_25 : decode cX10_put 25 = .ok (.bipush (-5), 2) := by decide +kernel
theorem dX10_put_27 : decode cX10_put 27 = .ok (.invokevirtual 145, 3) := by decide +kernel
theorem dX10_put_30 : decode cX10_put 30 = .ok (.ireturn, 1) := by decide +kernel
theorem dX10_put_31 : decode cX10_put 31 = .ok (.iload_n 2, 1) := by decide +kernel
theorem dX10_put_32 : decode cX10_put 32 = .ok (.iconst 0, 1) := by decide +kernel
theorem dX10_put_33 : decode cX10_put 33 = .ok (.aload_n 0, 1) := by decide +kernel
theorem dX10_put_34 : decode cX10_put 34 = .ok (.getfield 69, 3) := by decide +kernel
theorem dX10_put_37 : decode cX10_put 37 = .ok (.iload_n 1, 1) := by decide +kernel
theorem dX10_put_38 : decode cX10_put 38 = .ok (.iaload, 1) := by decide +kernel
theorem dX10_put_39 : decode cX10_put 39 = .ok (.iconst 1, 1) := by decide +kernel
theorem dX10_put_40 : decode cX10_put 40 = .ok (.isub, 1) := by decide +kernel
theorem dX10_put_41 : decode cX10_put 41 = .ok (.invokestatic 138, 3) := by decide +kernel
theorem dX10_put_44 : decode cX10_put 44 = .ok (.ifCond .ne 10, 3) := by decide +kernel
theorem dX10_put_47 : decode cX10_put 47 = .ok (.aload_n 0, 1) := by decide +kernel
theorem dX10_put_48 : decode cX10_put 48 = .ok (.bipush (-7), 2) := by decide +kernel
theorem dX10_put_50 : decode cX10_put 50 = .ok (.invokevirtual 145, 3) := by decide +kernel
theorem dX10_put_53 : decode cX10_put 53 = .ok (.ireturn, 1) := by decide +kernel
theorem dX10_put_54 : decode cX10_put 54 = .ok (.iload_n 3, 1) := by decide +kernel
theorem dX10_put_55 : decode cX10_put 55 = .ok (.ifCond .ge 10, 3) := by decide +kernel
theorem dX10_put_58 : decode cX10_put 58 = .ok (.aload_n 0, 1) := by decide +kernel
theorem dX10_put_59 : decode cX10_put 59 = .ok (.bipush (-4), 2) := by decide +kernel
theorem dX10_put_61 : decode cX10_put 61 = .ok (.invokevirtual 145, 3) := by decide +kernel
theorem dX10_put_64 : decode cX10_put 64 = .ok (.ireturn, 1) := by decide +kernel
theorem dX10_put_65 : decode cX10_put 65 = .ok (.iload_n 3, 1) := by decide +kernel
theorem dX10_put_66 : decode cX10_put 66 = .ok (.bipush 20, 2) := by decide +kernel
theorem dX10_put_68 : decode cX10_put 68 = .ok (.if_icmp .le 10, 3) := by decide +kernel
theorem dX10_put_71 : decode cX10_put 71 = .ok (.aload_n 0, 1) := by decide +kernel
theorem dX10_put_72 : decode cX10_put 72 = .ok (.bipush (-6), 2) := by decide +kernel
theorem dX10_put_74 : decode cX10_put 74 = .ok (.invokevirtual 145, 3) := by decide +kernel
theorem dX10_put_77 : decode cX10_put 77 = .ok (.ireturn, 1) := by decide +kernel
theorem dX10_put_78 : decode cX10_put 78 = .ok (.aload_n 0, 1) := by decide +kernel
theorem dX10_put_79 : decode cX10_put 79 = .ok (.getfield 72, 3) := by decide +kernel
theorem dX10_put_82 : decode cX10_put 82 = .ok (.bipush 24, 2) := by decide +kernel
theorem dX10_put_84 : decode cX10_put 84 = .ok (.iload_n 1, 1) := by decide +kernel
theorem dX10_put_85 : decode cX10_put 85 = .ok (.imul, 1) := by decide +kernel
theorem dX10_put_86 : decode cX10_put 86 = .ok (.iload_n 2, 1) := by decide +kernel
theorem dX10_put_87 : decode cX10_put 87 = .ok (.iadd, 1) := by decide +kernel
theorem dX10_put_88 : decode cX10_put 88 = .ok (.iaload, 1) := by decide +kernel
theorem dX10_put_89 : decode cX10_put 89 = .ok (.istore 4, 2) := by decide +kernel
theorem dX10_put_91 : decode cX10_put 91 = .ok (.aload_n 0, 1) := by decide +kernel
theorem dX10_put_92 : decode cX10_put 92 = .ok (.getfield 72, 3) := by decide +kernel
theorem dX10_put_95 : decode cX10_put 95 = .ok (.bipush 24, 2) := by decide +kernel
theorem dX10_put_97 : decode cX10_put 97 = .ok (.iload_n 1, 1) := by decide +kernel
theorem dX10_put_98 : decode cX10_put 98 = .ok (.imul, 1) := by decide +kernel
theorem dX10_put_99 : decode cX10_put 99 = .ok (.iload_n 2, 1) := by decide +kernel
theorem dX10_put_100 : decode cX10_put 100 = .ok (.iadd, 1) := by decide +kernel
theorem dX10_put_101 : decode cX10_put 101 = .ok (.iload_n 3, 1) := by decide +kernel
theorem dX10_put_102 : decode cX10_put 102 = .ok (.iastore, 1) := by decide +kernel
theorem dX10_put_103 : decode cX10_put 103 = .ok (.iload 4, 2) := by decide +kernel
theorem dX10_put_105 : decode cX10_put 105 = .ok (.ireturn, 1) := by decide +kernel
theorem dX10_copy_0 : decode cX10_copy 0 = .ok (.iload_n 1, 1) := by decide +kernel
theorem dX10_copy_1 : decode cX10_copy 1 = .ok (.iconst 0, 1) := by decide +kernel
theorem dX10_copy_2 : decode cX10_copy 2 = .ok (.iconst 3, 1) := by decide +kernel
theorem dX10_copy_3 : decode cX10_copy 3 = .ok (.invokestatic 138, 3) := by decide +kernel
theorem dX10_copy_6 : decode cX10_copy 6 = .ok (.ifCond .eq 12, 3) := by decide +kernel
theorem dX10_copy_9 : decode cX10_copy 9 = .ok (.iload_n 3, 1) := by decide +kernel
theorem dX10_copy_10 : decode cX10_copy 10 = .ok (.iconst 0, 1) := by decide +kernel
theorem dX10_copy_11 : decode cX10_copy 11 = .ok (.iconst 3, 1) := by decide +kernel
theorem dX10_copy_12 : decode cX10_copy 12 = .ok (.invokestatic 138, 3) := by decide +kernel
theorem dX10_copy_15 : decode cX10_copy 15 = .ok (.ifCond .ne 9, 3) := by decide +kernel
theorem dX10_copy_18 : decode cX10_copy 18 = .ok (.aload_n 0, 1) := by decide +kernel
theorem dX10_copy_19 : decode cX10_copy 19 = .ok (.iconst (-1), 1) := by decide +kernel
theorem dX10_copy_20 : decode cX10_copy 20 = .ok (.invokevirtual 145, 3) := by decide +kernel
theorem dX10_copy_23 : decode cX10_copy 23 = .ok (.ireturn, 1) := by decide +kernel
theorem dX10_copy_24 : decode cX10_copy 24 = .ok (.aload_n 0, 1) := by decide +kernel
theorem dX10_copy_25 : decode cX10_copy 25 = .ok (.getfield 69, 3) := by decide +kernel
theorem dX10_copy_28 : decode cX10_copy 28 = .ok (.iload_n 1, 1) := by decide +kernel
theorem dX10_copy_29 : decode cX10_copy 29 = .ok (.iaload, 1) := by decide +kernel
theorem dX10_copy_30 : decode cX10_copy 30 = .ok (.ifCond .lt 12, 3) := by decide +kernel
theorem dX10_copy_33 : decode cX10_copy 33 = .ok (.aload_n 0, 1) := by decide +kernel
theorem dX10_copy_34 : decode cX10_copy 34 = .ok (.getfield 69, 3) := by decide +kernel
theorem dX10_copy_37 : decode cX10_copy 37 = .ok (.iload_n 3, 1) := by decide +kernel
theorem dX10_copy_38 : decode cX10_copy 38 = .ok (.iaload, 1) := by decide +kernel
theorem dX10_copy_39 : decode cX10_copy 39 = .ok (.ifCond .ge 10, 3) := by decide +kernel
theorem dX10_copy_42 : decode cX10_copy 42 = .ok (.aload_n 0, 1) := by decide +kernel
theorem dX10_copy_43 : decode cX10_copy 43 = .ok (.bipush (-5), 2) := by decide +kernel
theorem dX10_copy_45 : decode cX10_copy 45 = .ok (.invokevirtual 145, 3) := by decide +kernel
theorem dX10_copy_48 : decode cX10_copy 48 = .ok (.ireturn, 1) := by decide +kernel
theorem dX10_copy_49 : decode cX10_copy 49 = .ok (.iload 5, 2) := by decide +kernel
theorem dX10_copy_51 : decode cX10_copy 51 = .ok (.ifCond .lt 46, 3) := by decide +kernel
theorem dX10_copy_54 : decode cX10_copy 54 = .ok (.iload 5, 2) := by decide +kernel
theorem dX10_copy_56 : decode cX10_copy 56 = .ok (.bipush 24, 2) := by decide +kernel
theorem dX10_copy_58 : decode cX10_copy 58 = .ok (.if_icmp .gt 39, 3) := by decide +kernel
theorem dX10_copy_61 : decode cX10_copy 61 = .ok (.iload_n 2, 1) := by decide +kernel
theorem dX10_copy_62 : decode cX10_copy 62 = .ok (.ifCond .lt 35, 3) := by decide +kernel
theorem dX10_copy_65 : decode cX10_copy 65 = .ok (.iload 4, 2) := by decide +kernel
theorem dX10_copy_67 : decode cX10_copy 67 = .ok (.ifCond .lt 30, 3) := by decide +kernel
theorem dX10_copy_70 : decode cX10_copy 70 = .ok (.iload_n 2, 1) := by decide +kernel
theorem dX10_copy_71 : decode cX10_copy 71 = .ok (.aload_n 0, 1) := by decide +kernel
theorem dX10_copy_72 : decode cX10_copy 72 = .ok (.getfield 69, 3) := by decide +kernel
theorem dX10_copy_75 : decode cX10_copy 75 = .ok (.iload_n 1, 1) := by decide +kernel
theorem dX10_copy_76 : decode cX10_copy 76 = .ok (.iaload, 1) := by decide +kernel
theorem dX10_copy_77 : decode cX10_copy 77 = .ok (.iload 5, 2) := by decide +kernel
theorem dX10_copy_79 : decode cX10_copy 79 = .ok (.isub, 1) := by decide +kernel
theorem dX10_copy_80 : decode cX10_copy 80 = .ok (.if_icmp .gt 17, 3) := by decide +kernel
theorem dX10_copy_83 : decode cX10_copy 83 = .ok (.iload 4, 2) := by decide +kernel
theorem dX10_copy_85 : decode cX10_copy 85 = .ok (.aload_n 0, 1) := by decide +kernel
theorem dX10_copy_86 : decode cX10_copy 86 = .ok (.getfield 69, 3) := by decide +kernel
theorem dX10_copy_89 : decode cX10_copy 89 = .ok (.iload_n 3, 1) := by decide +kernel
theorem dX10_copy_90 : decode cX10_copy 90 = .ok (.iaload, 1) := by decide +kernel
theorem dX10_copy_91 : decode cX10_copy 91 = .ok (.iload 5, 2) := by decide +kernel
theorem dX10_copy_93 : decode cX10_copy 93 = .ok (.isub, 1) := by decide +kernel
theorem dX10_copy_94 : decode cX10_copy 94 = .ok (.if_icmp .le 10, 3) := by decide +kernel
theorem dX10_copy_97 : decode cX10_copy 97 = .ok (.aload_n 0, 1) := by decide +kernel
theorem dX10_copy_98 : decode cX10_copy 98 = .ok (.bipush (-7), 2) := by decide +kernel
theorem dX10_copy_100 : decode cX10_copy 100 = .ok (.invokevirtual 145, 3) := by decide +kernel
theorem dX10_copy_103 : decode cX10_copy 103 = .ok (.ireturn, 1) := by decide +kernel
theorem dX10_copy_104 : decode cX10_copy 104 = .ok (.iconst 0, 1) := by decide +kernel
theorem dX10_copy_105 : decode cX10_copy 105 = .ok (.istore 6, 2) := by decide +kernel
theorem dX10_copy_107 : decode cX10_copy 107 = .ok (.iload 6, 2) := by decide +kernel
theorem dX10_copy_109 : decode cX10_copy 109 = .ok (.iload 5, 2) := by decide +kernel
theorem dX10_copy_111 : decode cX10_copy 111 = .ok (.if_icmp .ge 30, 3) := by decide +kernel
theorem dX10_copy_114 : decode cX10_copy 114 = .ok (.aload_n 0, 1) := by decide +kernel
theorem dX10_copy_115 : decode cX10_copy 115 = .ok (.getfield 114, 3) := by decide +kernel
theorem dX10_copy_118 : decode cX10_copy 118 = .ok (.iload 6, 2) := by decide +kernel
theorem dX10_copy_120 : decode cX10_copy 120 = .ok (.aload_n 0, 1) := by decide +kernel
theorem dX10_copy_121 : decode cX10_copy 121 = .ok (.getfield 72, 3) := by decide +kernel
theorem dX10_copy_124 : decode cX10_copy 124 = .ok (.bipush 24, 2) := by decide +kernel
theorem dX10_copy_126 : decode cX10_copy 126 = .ok (.iload_n 1, 1) := by decide +kernel
theorem dX10_copy_127 : decode cX10_copy 127 = .ok (.imul, 1) := by decide +kernel
theorem dX10_copy_128 : decode cX10_copy 128 = .ok (.iload_n 2, 1) := by decide +kernel
theorem dX10_copy_129 : decode cX10_copy 129 = .ok (.iadd, 1) := by decide +kernel
theorem dX10_copy_130 : decode cX10_copy 130 = .ok (.iload 6, 2) := by decide +kernel
theorem dX10_copy_132 : decode cX10_copy 132 = .ok (.iadd, 1) := by decide +kernel
theorem dX10_copy_133 : decode cX10_copy 133 = .ok (.iaload, 1) := by decide +kernel
theorem dX10_copy_134 : decode cX10_copy 134 = .ok (.iastore, 1) := by decide +kernel
theorem dX10_copy_135 : decode cX10_copy 135 = .ok (.iinc 6 1, 3) := by decide +kernel
theorem dX10_copy_138 : decode cX10_copy 138 = .ok (.goto (-31), 3) := by decide +kernel
theorem dX10_copy_141 : decode cX10_copy 141 = .ok (.iconst 0, 1) := by decide +kernel
theorem dX10_copy_142 : decode cX10_copy 142 = .ok (.istore 6, 2) := by decide +kernel
theorem dX10_copy_144 : decode cX10_copy 144 = .ok (.iload 6, 2) := by decide +kernel
theorem dX10_copy_146 : decode cX10_copy 146 = .ok (.iload 5, 2) := by decide +kernel
theorem dX10_copy_148 : decode cX10_copy 148 = .ok (.if_icmp .ge 31, 3) := by decide +kernel
theorem dX10_copy_151 : decode cX10_copy 151 = .ok (.aload_n 0, 1) := by decide +kernel
theorem dX10_copy_152 : decode cX10_copy 152 = .ok (.getfield 72, 3) := by decide +kernel
theorem dX10_copy_155 : decode cX10_copy 155 = .ok (.bipush 24, 2) := by decide +kernel
theorem dX10_copy_157 : decode cX10_copy 157 = .ok (.iload_n 3, 1) := by decide +kernel
theorem dX10_copy_158 : decode cX10_copy 158 = .ok (.imul, 1) := by decide +kernel
theorem dX10_copy_159 : decode cX10_copy 159 = .ok (.iload 4, 2) := by decide +kernel
theorem dX10_copy_161 : decode cX10_copy 161 = .ok (.iadd, 1) := by decide +kernel
theorem dX10_copy_162 : decode cX10_copy 162 = .ok (.iload 6, 2) := by decide +kernel
theorem dX10_copy_164 : decode cX10_copy 164 = .ok (.iadd, 1) := by decide +kernel
theorem dX10_copy_165 : decode cX10_copy 165 = .ok (.aload_n 0, 1) := by decide +kernel
theorem dX10_copy_166 : decode cX10_copy 166 = .ok (.getfield 114, 3) := by decide +kernel
theorem dX10_copy_169 : decode cX10_copy 169 = .ok (.iload 6, 2) := by decide +kernel
theorem dX10_copy_171 : decode cX10_copy 171 = .ok (.iaload, 1) := by decide +kernel
theorem dX10_copy_172 : decode cX10_copy 172 = .ok (.iastore, 1) := by decide +kernel
theorem dX10_copy_173 : decode cX10_copy 173 = .ok (.iinc 6 1, 3) := by decide +kernel
theorem dX10_copy_176 : decode cX10_copy 176 = .ok (.goto (-32), 3) := by decide +kernel
theorem dX10_copy_179 : decode cX10_copy 179 = .ok (.iload 5, 2) := by decide +kernel
theorem dX10_copy_181 : decode cX10_copy 181 = .ok (.ireturn, 1) := by decide +kernel
theorem dX10_lead_0 : decode cX10_lead 0 = .ok (.aload_n 0, 1) := by decide +kernel
theorem dX10_lead_1 : decode cX10_lead 1 = .ok (.iload_n 1, 1) := by decide +kernel
theorem dX10_lead_2 : decode cX10_lead 2 = .ok (.invokevirtual 160, 3) := by decide +kernel
theorem dX10_lead_5 : decode cX10_lead 5 = .ok (.ifCond .eq 12, 3) := by decide +kernel
theorem dX10_lead_8 : decode cX10_lead 8 = .ok (.iload_n 2, 1) := by decide +kernel
theorem dX10_lead_9 : decode cX10_lead 9 = .ok (.iconst (-1), 1) := by decide +kernel
theorem dX10_lead_10 : decode cX10_lead 10 = .ok (.iconst 3, 1) := by decide +kernel
theorem dX10_lead_11 : decode cX10_lead 11 = .ok (.invokestatic 138, 3) := by decide +kernel
theorem dX10_lead_14 : decode cX10_lead 14 = .ok (.ifCond .ne 16, 3) := by decide +kernel
theorem dX10_lead_17 : decode cX10_lead 17 = .ok (.aload_n 0, 1) := by decide +kernel
theorem dX10_lead_18 : decode cX10_lead 18 = .ok (.getfield 111, 3) := by decide +kernel
theorem dX10_lead_21 : decode cX10_lead 21 = .ok (.iconst 1, 1) := by decide +kernel
theorem dX10_lead_22 : decode cX10_lead 22 = .ok (.dup2, 1) := by decide +kernel
theorem dX10_lead_23 : decode cX10_lead 23 = .ok (.iaload, 1) := by decide +kernel
theorem dX10_lead_24 : decode cX10_lead 24 = .ok (.iconst 1, 1) := by decide +kernel
theorem dX10_lead_25 : decode cX10_lead 25 = .ok (.iadd, 1) := by decide +kernel
theorem dX10_lead_26 : decode cX10_lead 26 = .ok (.iastore, 1) := by decide +kernel
theorem dX10_lead_27 : decode cX10_lead 27 = .ok (.ldc 163, 2) := by decide +kernel
theorem dX10_lead_29 : decode cX10_lead 29 = .ok (.ireturn, 1) := by decide +kernel
theorem dX10_lead_30 : decode cX10_lead 30 = .ok (.aload_n 0, 1) := by decide +kernel
theorem dX10_lead_31 : decode cX10_lead 31 = .ok (.getfield 60, 3) := by decide +kernel
theorem dX10_lead_34 : decode cX10_lead 34 = .ok (.iload_n 1, 1) := by decide +kernel
theorem dX10_lead_35 : decode cX10_lead 35 = .ok (.iaload, 1) := by decide +kernel
theorem dX10_lead_36 : decode cX10_lead 36 = .ok (.istore_n 3, 1) := by decide +kernel
theorem dX10_lead_37 : decode cX10_lead 37 = .ok (.aload_n 0, 1) := by decide +kernel
theorem dX10_lead_38 : decode cX10_lead 38 = .ok (.getfield 60, 3) := by decide +kernel
theorem dX10_lead_41 : decode cX10_lead 41 = .ok (.iload_n 1, 1) := by decide +kernel
theorem dX10_lead_42 : decode cX10_lead 42 = .ok (.iload_n 2, 1) := by decide +kernel
theorem dX10_lead_43 : decode cX10_lead 43 = .ok (.iastore, 1) := by decide +kernel
theorem dX10_lead_44 : decode cX10_lead 44 = .ok (.iload_n 3, 1) := by decide +kernel
theorem dX10_lead_45 : decode cX10_lead 45 = .ok (.ireturn, 1) := by decide +kernel
theorem dX10_useOf_0 : decode cX10_useOf 0 = .ok (.aload_n 0, 1) := by decide +kernel
theorem dX10_useOf_1 : decode cX10_useOf 1 = .ok (.getfield 60, 3) := by decide +kernel
theorem dX10_useOf_4 : decode cX10_useOf 4 = .ok (.iload_n 1, 1) := by decide +kernel
theorem dX10_useOf_5 : decode cX10_useOf 5 = .ok (.iaload, 1) := by decide +kernel
theorem dX10_useOf_6 : decode cX10_useOf 6 = .ok (.istore_n 2, 1) := by decide +kernel
theorem dX10_useOf_7 : decode cX10_useOf 7 = .ok (.iload_n 2, 1) := by decide +kernel
theorem dX10_useOf_8 : decode cX10_useOf 8 = .ok (.ifCond .lt 39, 3) := by decide +kernel
theorem dX10_useOf_11 : decode cX10_useOf 11 = .ok (.aload_n 0, 1) := by decide +kernel
theorem dX10_useOf_12 : decode cX10_useOf 12 = .ok (.getfield 69, 3) := by decide +kernel
theorem dX10_useOf_15 : decode cX10_useOf 15 = .ok (.iload_n 2, 1) := by decide +kernel
theorem dX10_useOf_16 : decode cX10_useOf 16 = .ok (.iaload, 1) := by decide +kernel
theorem dX10_useOf_17 : decode cX10_useOf 17 = .ok (.ifCond .le 30, 3) := by decide +kernel
theorem dX10_useOf_20 : decode cX10_useOf 20 = .ok (.aload_n 0, 1) := by decide +kernel
theorem dX10_useOf_21 : decode cX10_useOf 21 = .ok (.getfield 72, 3) := by decide +kernel
theorem dX10_useOf_24 : decode cX10_useOf 24 = .ok (.bipush 24, 2) := by decide +kernel
theorem dX10_useOf_26 : decode cX10_useOf 26 = .ok (.iload_n 2, 1) := by decide +kernel
theorem dX10_useOf_27 : decode cX10_useOf 27 = .ok (.imul, 1) := by decide +kernel
theorem dX10_useOf_28 : decode cX10_useOf 28 = .ok (.aload_n 0, 1) := by decide +kernel
theorem dX10_useOf_29 : decode cX10_useOf 29 = .ok (.getfield 149, 3) := by decide +kernel
theorem dX10_useOf_32 : decode cX10_useOf 32 = .ok (.bipush 24, 2) := by decide +kernel
theorem dX10_useOf_34 : decode cX10_useOf 34 = .ok (.irem, 1) := by decide +kernel
theorem dX10_useOf_35 : decode cX10_useOf 35 = .ok (.aload_n 0, 1) := by decide +kernel
theorem dX10_useOf_36 : decode cX10_useOf 36 = .ok (.getfield 69, 3) := by decide +kernel
theorem dX10_useOf_39 : decode cX10_useOf 39 = .ok (.iload_n 2, 1) := by decide +kernel
theorem dX10_useOf_40 : decode cX10_useOf 40 = .ok (.iaload, 1) := by decide +kernel
theorem dX10_useOf_41 : decode cX10_useOf 41 = .ok (.irem, 1) := by decide +kernel
theorem dX10_useOf_42 : decode cX10_useOf 42 = .ok (.iadd, 1) := by decide +kernel
theorem dX10_useOf_43 : decode cX10_useOf 43 = .ok (.iaload, 1) := by decide +kernel
theorem dX10_useOf_44 : decode cX10_useOf 44 = .ok (.goto 9, 3) := by decide +kernel
theorem dX10_useOf_47 : decode cX10_useOf 47 = .ok (.aload_n 0, 1) := by decide +kernel
theorem dX10_useOf_48 : decode cX10_useOf 48 = .ok (.getfield 54, 3) := by decide +kernel
theorem dX10_useOf_51 : decode cX10_useOf 51 = .ok (.iload_n 1, 1) := by decide +kernel
theorem dX10_useOf_52 : decode cX10_useOf 52 = .ok (.iaload, 1) := by decide +kernel
theorem dX10_useOf_53 : decode cX10_useOf 53 = .ok (.ireturn, 1) := by decide +kernel
theorem dX10_end_0 : decode cX10_end 0 = .ok (.aload_n 0, 1) := by decide +kernel
theorem dX10_end_1 : decode cX10_end 1 = .ok (.iload_n 1, 1) := by decide +kernel
theorem dX10_end_2 : decode cX10_end 2 = .ok (.invokevirtual 156, 3) := by decide +kernel
theorem dX10_end_5 : decode cX10_end 5 = .ok (.ifCond .ne 9, 3) := by decide +kernel
theorem dX10_end_8 : decode cX10_end 8 = .ok (.aload_n 0, 1) := by decide +kernel
theorem dX10_end_9 : decode cX10_end 9 = .ok (.iconst (-1), 1) := by decide +kernel
theorem dX10_end_10 : decode cX10_end 10 = .ok (.invokevirtual 145, 3) := by decide +kernel
theorem dX10_end_13 : decode cX10_end 13 = .ok (.ireturn, 1) := by decide +kernel
theorem dX10_end_14 : decode cX10_end 14 = .ok (.aload_n 0, 1) := by decide +kernel
theorem dX10_end_15 : decode cX10_end 15 = .ok (.getfield 33, 3) := by decide +kernel
theorem dX10_end_18 : decode cX10_end 18 = .ok (.iload_n 1, 1) := by decide +kernel
theorem dX10_end_19 : decode cX10_end 19 = .ok (.iaload, 1) := by decide +kernel
theorem dX10_end_20 : decode cX10_end 20 = .ok (.ifCond .le 10, 3) := by decide +kernel
theorem dX10_end_23 : decode cX10_end 23 = .ok (.aload_n 0, 1) := by decide +kernel
theorem dX10_end_24 : decode cX10_end 24 = .ok (.bipush (-3), 2) := by decide +kernel
theorem dX10_end_26 : decode cX10_end 26 = .ok (.invokevirtual 145, 3) := by decide +kernel
theorem dX10_end_29 : decode cX10_end 29 = .ok (.ireturn, 1) := by decide +kernel
theorem dX10_end_30 : decode cX10_end 30 = .ok (.iload_n 2, 1) := by decide +kernel
theorem dX10_end_31 : decode cX10_end 31 = .ok (.ifCond .lt 13, 3) := by decide +kernel
theorem dX10_end_34 : decode cX10_end 34 = .ok (.iload_n 2, 1) := by decide +kernel
theorem dX10_end_35 : decode cX10_end 35 = .ok (.iconst 1, 1) := by decide +kernel
theorem dX10_end_36 : decode cX10_end 36 = .ok (.bipush 49, 2) := by decide +kernel
theorem dX10_end_38 : decode cX10_end 38 = .ok (.invokestatic 138, 3) := by decide +kernel
theorem dX10_end_41 : decode cX10_end 41 = .ok (.ifCond .eq 10, 3) := by decide +kernel
theorem dX10_end_44 : decode cX10_end 44 = .ok (.aload_n 0, 1) := by decide +kernel
theorem dX10_end_45 : decode cX10_end 45 = .ok (.bipush (-4), 2) := by decide +kernel
theorem dX10_end_47 : decode cX10_end 47 = .ok (.invokevirtual 145, 3) := by decide +kernel
theorem dX10_end_50 : decode cX10_end 50 = .ok (.ireturn, 1) := by decide +kernel
theorem dX10_end_51 : decode cX10_end 51 = .ok (.iload_n 2, 1) := by decide +kernel
theorem dX10_end_52 : decode cX10_end 52 = .ok (.sipush 2000, 3) := by decide +kernel
theorem dX10_end_55 : decode cX10_end 55 = .ok (.if_icmp .le 10, 3) := by decide +kernel
theorem dX10_end_58 : decode cX10_end 58 = .ok (.aload_n 0, 1) := by decide +kernel
theorem dX10_end_59 : decode cX10_end 59 = .ok (.bipush (-6), 2) := by decide +kernel
theorem dX10_end_61 : decode cX10_end 61 = .ok (.invokevirtual 145, 3) := by decide +kernel
theorem dX10_end_64 : decode cX10_end 64 = .ok (.ireturn, 1) := by decide +kernel
theorem dX10_end_65 : decode cX10_end 65 = .ok (.aload_n 0, 1) := by decide +kernel
theorem dX10_end_66 : decode cX10_end 66 = .ok (.getfield 33, 3) := by decide +kernel
theorem dX10_end_69 : decode cX10_end 69 = .ok (.iload_n 1, 1) := by decide +kernel
theorem dX10_end_70 : decode cX10_end 70 = .ok (.iload_n 2, 1) := by decide +kernel
theorem dX10_end_71 : decode cX10_end 71 = .ok (.ifCond .ne 7, 3) := by decide +kernel
theorem dX10_end_74 : decode cX10_end 74 = .ok (.iconst 1, 1) := by decide +kernel
theorem dX10_end_75 : decode cX10_end 75 = .ok (.goto 4, 3) := by decide +kernel
theorem dX10_end_78 : decode cX10_end 78 = .ok (.iconst 2, 1) := by decide +kernel
theorem dX10_end_79 : decode cX10_end 79 = .ok (.iastore, 1) := by decide +kernel
theorem dX10_end_80 : decode cX10_end 80 = .ok (.aload_n 0, 1) := by decide +kernel
theorem dX10_end_81 : decode cX10_end 81 = .ok (.getfield 36, 3) := by decide +kernel
theorem dX10_end_84 : decode cX10_end 84 = .ok (.iload_n 1, 1) := by decide +kernel
theorem dX10_end_85 : decode cX10_end 85 = .ok (.iload_n 2, 1) := by decide +kernel
theorem dX10_end_86 : decode cX10_end 86 = .ok (.iastore, 1) := by decide +kernel
theorem dX10_end_87 : decode cX10_end 87 = .ok (.aload_n 0, 1) := by decide +kernel
theorem dX10_end_88 : decode cX10_end 88 = .ok (.getfield 39, 3) := by decide +kernel
theorem dX10_end_91 : decode cX10_end 91 = .ok (.iload_n 1, 1) := by decide +kernel
theorem dX10_end_92 : decode cX10_end 92 = .ok (.iconst 0, 1) := by decide +kernel
theorem dX10_end_93 : decode cX10_end 93 = .ok (.iastore, 1) := by decide +kernel
theorem dX10_end_94 : decode cX10_end 94 = .ok (.aload_n 0, 1) := by decide +kernel
theorem dX10_end_95 : decode cX10_end 95 = .ok (.getfield 42, 3) := by decide +kernel
theorem dX10_end_98 : decode cX10_end 98 = .ok (.iload_n 1, 1) := by decide +kernel
theorem dX10_end_99 : decode cX10_end 99 = .ok (.iconst 0, 1) := by decide +kernel
theorem dX10_end_100 : decode cX10_end 100 = .ok (.bastore, 1) := by decide +kernel
theorem dX10_end_101 : decode cX10_end 101 = .ok (.iconst 1, 1) := by decide +kernel
theorem dX10_end_102 : decode cX10_end 102 = .ok (.ireturn, 1) := by decide +kernel
theorem dX10_clear_0 : decode cX10_clear 0 = .ok (.aload_n 0, 1) := by decide +kernel
theorem dX10_clear_1 : decode cX10_clear 1 = .ok (.iload_n 1, 1) := by decide +kernel
theorem dX10_clear_2 : decode cX10_clear 2 = .ok (.invokevirtual 156, 3) := by decide +kernel
theorem dX10_clear_5 : decode cX10_clear 5 = .ok (.ifCond .ne 9, 3) := by decide +kernel
theorem dX10_clear_8 : decode cX10_clear 8 = .ok (.aload_n 0, 1) := by decide +kernel
theorem dX10_clear_9 : decode cX10_clear 9 = .ok (.iconst (-1), 1) := by decide +kernel
theorem dX10_clear_10 : decode cX10_clear 10 = .ok (.invokevirtual 145, 3) := by decide +kernel
theorem dX10_clear_13 : decode cX10_clear 13 = .ok (.ireturn, 1) := by decide +kernel
theorem dX10_clear_14 : decode cX10_clear 14 = .ok (.aload_n 0, 1) := by decide +kernel
theorem dX10_clear_15 : decode cX10_clear 15 = .ok (.getfield 33, 3) := by decide +kernel
theorem dX10_clear_18 : decode cX10_clear 18 = .ok (.iload_n 1, 1) := by decide +kernel
theorem dX10_clear_19 : decode cX10_clear 19 = .ok (.iaload, 1) := by decide +kernel
theorem dX10_clear_20 : decode cX10_clear 20 = .ok (.ifCond .ne 10, 3) := by decide +kernel
theorem dX10_clear_23 : decode cX10_clear 23 = .ok (.aload_n 0, 1) := by decide +kernel
theorem dX10_clear_24 : decode cX10_clear 24 = .ok (.bipush (-5), 2) := by decide +kernel
theorem dX10_clear_26 : decode cX10_clear 26 = .ok (.invokevirtual 145, 3) := by decide +kernel
theorem dX10_clear_29 : decode cX10_clear 29 = .ok (.ireturn, 1) := by decide +kernel
theorem dX10_clear_30 : decode cX10_clear 30 = .ok (.aload_n 0, 1) := by decide +kernel
theorem dX10_clear_31 : decode cX10_clear 31 = .ok (.getfield 33, 3) := by decide +kernel
theorem dX10_clear_34 : decode cX10_clear 34 = .ok (.iload_n 1, 1) := by decide +kernel
theorem dX10_clear_35 : decode cX10_clear 35 = .ok (.iaload, 1) := by decide +kernel
theorem dX10_clear_36 : decode cX10_clear 36 = .ok (.iconst 2, 1) := by decide +kernel
theorem dX10_clear_37 : decode cX10_clear 37 = .ok (.if_icmp .ne 12, 3) := by decide +kernel
theorem dX10_clear_40 : decode cX10_clear 40 = .ok (.aload_n 0, 1) := by decide +kernel
theorem dX10_clear_41 : decode cX10_clear 41 = .ok (.getfield 39, 3) := by decide +kernel
theorem dX10_clear_44 : decode cX10_clear 44 = .ok (.iload_n 1, 1) := by decide +kernel
theorem dX10_clear_45 : decode cX10_clear 45 = .ok (.iaload, 1) := by decide +kernel
theorem dX10_clear_46 : decode cX10_clear 46 = .ok (.goto 4, 3) := by decide +kernel
theorem dX10_clear_49 : decode cX10_clear 49 = .ok (.iconst 0, 1) := by decide +kernel
theorem dX10_clear_50 : decode cX10_clear 50 = .ok (.istore_n 2, 1) := by decide +kernel
theorem dX10_clear_51 : decode cX10_clear 51 = .ok (.aload_n 0, 1) := by decide +kernel
theorem dX10_clear_52 : decode cX10_clear 52 = .ok (.getfield 33, 3) := by decide +kernel
theorem dX10_clear_55 : decode cX10_clear 55 = .ok (.iload_n 1, 1) := by decide +kernel
theorem dX10_clear_56 : decode cX10_clear 56 = .ok (.iconst 0, 1) := by decide +kernel
theorem dX10_clear_57 : decode cX10_clear 57 = .ok (.iastore, 1) := by decide +kernel
theorem dX10_clear_58 : decode cX10_clear 58 = .ok (.aload_n 0, 1) := by decide +kernel
theorem dX10_clear_59 : decode cX10_clear 59 = .ok (.getfield 39, 3) := by decide +kernel
theorem dX10_clear_62 : decode cX10_clear 62 = .ok (.iload_n 1, 1) := by decide +kernel
theorem dX10_clear_63 : decode cX10_clear 63 = .ok (.iconst 0, 1) := by decide +kernel
theorem dX10_clear_64 : decode cX10_clear 64 = .ok (.iastore, 1) := by decide +kernel
theorem dX10_clear_65 : decode cX10_clear 65 = .ok (.aload_n 0, 1) := by decide +kernel
theorem dX10_clear_66 : decode cX10_clear 66 = .ok (.getfield 42, 3) := by decide +kernel
theorem dX10_clear_69 : decode cX10_clear 69 = .ok (.iload_n 1, 1) := by decide +kernel
theorem dX10_clear_70 : decode cX10_clear 70 = .ok (.iconst 0, 1) := by decide +kernel
theorem dX10_clear_71 : decode cX10_clear 71 = .ok (.bastore, 1) := by decide +kernel
theorem dX10_clear_72 : decode cX10_clear 72 = .ok (.iload_n 2, 1) := by decide +kernel
theorem dX10_clear_73 : decode cX10_clear 73 = .ok (.ireturn, 1) := by decide +kernel
theorem dX10_draw_0 : decode cX10_draw 0 = .ok (.aload_n 0, 1) := by decide +kernel
theorem dX10_draw_1 : decode cX10_draw 1 = .ok (.iload_n 1, 1) := by decide +kernel
theorem dX10_draw_2 : decode cX10_draw 2 = .ok (.invokevirtual 156, 3) := by decide +kernel
theorem dX10_draw_5 : decode cX10_draw 5 = .ok (.ifCond .ne 9, 3) := by decide +kernel
theorem dX10_draw_8 : decode cX10_draw 8 = .ok (.aload_n 0, 1) := by decide +kernel
theorem dX10_draw_9 : decode cX10_draw 9 = .ok (.iconst (-1), 1) := by decide +kernel
theorem dX10_draw_10 : decode cX10_draw 10 = .ok (.invokevirtual 145, 3) := by decide +kernel
theorem dX10_draw_13 : decode cX10_draw 13 = .ok (.ireturn, 1) := by decide +kernel
theorem dX10_draw_14 : decode cX10_draw 14 = .ok (.aload_n 0, 1) := by decide +kernel
theorem dX10_draw_15 : decode cX10_draw 15 = .ok (.getfield 33, 3) := by decide +kernel
theorem dX10_draw_18 : decode cX10_draw 18 = .ok (.iload_n 1, 1) := by decide +kernel
theorem dX10_draw_19 : decode cX10_draw 19 = .ok (.iaload, 1) := by decide +kernel
theorem dX10_draw_20 : decode cX10_draw 20 = .ok (.ifCond .ne 10, 3) := by decide +kernel
theorem dX10_draw_23 : decode cX10_draw 23 = .ok (.aload_n 0, 1) := by decide +kernel
theorem dX10_draw_24 : decode cX10_draw 24 = .ok (.bipush (-5), 2) := by decide +kernel
theorem dX10_draw_26 : decode cX10_draw 26 = .ok (.invokevirtual 145, 3) := by decide +kernel
theorem dX10_draw_29 : decode cX10_draw 29 = .ok (.ireturn, 1) := by decide +kernel
theorem dX10_draw_30 : decode cX10_draw 30 = .ok (.aload_n 0, 1) := by decide +kernel
theorem dX10_draw_31 : decode cX10_draw 31 = .ok (.getfield 33, 3) := by decide +kernel
theorem dX10_draw_34 : decode cX10_draw 34 = .ok (.iload_n 1, 1) := by decide +kernel
theorem dX10_draw_35 : decode cX10_draw 35 = .ok (.iaload, 1) := by decide +kernel
theorem dX10_draw_36 : decode cX10_draw 36 = .ok (.iconst 2, 1) := by decide +kernel
theorem dX10_draw_37 : decode cX10_draw 37 = .ok (.if_icmp .ne 10, 3) := by decide +kernel
theorem dX10_draw_40 : decode cX10_draw 40 = .ok (.aload_n 0, 1) := by decide +kernel
theorem dX10_draw_41 : decode cX10_draw 41 = .ok (.bipush (-2), 2) := by decide +kernel
theorem dX10_draw_43 : decode cX10_draw 43 = .ok (.invokevirtual 145, 3) := by decide +kernel
theorem dX10_draw_46 : decode cX10_draw 46 = .ok (.ireturn, 1) := by decide +kernel
theorem dX10_draw_47 : decode cX10_draw 47 = .ok (.aload_n 0, 1) := by decide +kernel
theorem dX10_draw_48 : decode cX10_draw 48 = .ok (.getfield 42, 3) := by decide +kernel
theorem dX10_draw_51 : decode cX10_draw 51 = .ok (.iload_n 1, 1) := by decide +kernel
theorem dX10_draw_52 : decode cX10_draw 52 = .ok (.baload, 1) := by decide +kernel
theorem dX10_draw_53 : decode cX10_draw 53 = .ok (.istore_n 3, 1) := by decide +kernel
theorem dX10_draw_54 : decode cX10_draw 54 = .ok (.aload_n 0, 1) := by decide +kernel
theorem dX10_draw_55 : decode cX10_draw 55 = .ok (.getfield 42, 3) := by decide +kernel
theorem dX10_draw_58 : decode cX10_draw 58 = .ok (.iload_n 1, 1) := by decide +kernel
theorem dX10_draw_59 : decode cX10_draw 59 = .ok (.iload_n 2, 1) := by decide +kernel
theorem dX10_draw_60 : decode cX10_draw 60 = .ok (.bastore, 1) := by decide +kernel
theorem dX10_draw_61 : decode cX10_draw 61 = .ok (.iload_n 3, 1) := by decide +kernel
theorem dX10_draw_62 : decode cX10_draw 62 = .ok (.iload_n 2, 1) := by decide +kernel
theorem dX10_draw_63 : decode cX10_draw 63 = .ok (.if_icmp .ne 7, 3) := by decide +kernel
theorem dX10_draw_66 : decode cX10_draw 66 = .ok (.iconst 0, 1) := by decide +kernel
theorem dX10_draw_67 : decode cX10_draw 67 = .ok (.goto 4, 3) := by decide +kernel
theorem dX10_draw_70 : decode cX10_draw 70 = .ok (.iconst 1, 1) := by decide +kernel
theorem dX10_draw_71 : decode cX10_draw 71 = .ok (.ireturn, 1) := by decide +kernel
theorem dX10_brew_0 : decode cX10_brew 0 = .ok (.aload_n 0, 1) := by decide +kernel
theorem dX10_brew_1 : decode cX10_brew 1 = .ok (.iload_n 1, 1) := by decide +kernel
theorem dX10_brew_2 : decode cX10_brew 2 = .ok (.invokevirtual 156, 3) := by decide +kernel
theorem dX10_brew_5 : decode cX10_brew 5 = .ok (.ifCond .ne 9, 3) := by decide +kernel
theorem dX10_brew_8 : decode cX10_brew 8 = .ok (.aload_n 0, 1) := by decide +kernel
theorem dX10_brew_9 : decode cX10_brew 9 = .ok (.iconst (-1), 1) := by decide +kernel
theorem dX10_brew_10 : decode cX10_brew 10 = .ok (.invokevirtual 145, 3) := by decide +kernel
theorem dX10_brew_13 : decode cX10_brew 13 = .ok (.ireturn, 1) := by decide +kernel
theorem dX10_brew_14 : decode cX10_brew 14 = .ok (.aload_n 0, 1) := by decide +kernel
theorem dX10_brew_15 : decode cX10_brew 15 = .ok (.getfield 33, 3) := by decide +kernel
theorem dX10_brew_18 : decode cX10_brew 18 = .ok (.iload_n 1, 1) := by decide +kernel
theorem dX10_brew_19 : decode cX10_brew 19 = .ok (.iaload, 1) := by decide +kernel
theorem dX10_brew_20 : decode cX10_brew 20 = .ok (.ifCond .ne 10, 3) := by decide +kernel
theorem dX10_brew_23 : decode cX10_brew 23 = .ok (.aload_n 0, 1) := by decide +kernel
theorem dX10_brew_24 : decode cX10_brew 24 = .ok (.bipush (-5), 2) := by decide +kernel
theorem dX10_brew_26 : decode cX10_brew 26 = .ok (.invokevirtual 145, 3) := by decide +kernel
theorem dX10_brew_29 : decode cX10_brew 29 = .ok (.ireturn, 1) := by decide +kernel
theorem dX10_brew_30 : decode cX10_brew 30 = .ok (.aload_n 0, 1) := by decide +kernel
theorem dX10_brew_31 : decode cX10_brew 31 = .ok (.getfield 33, 3) := by decide +kernel
theorem dX10_brew_34 : decode cX10_brew 34 = .ok (.iload_n 1, 1) := by decide +kernel
theorem dX10_brew_35 : decode cX10_brew 35 = .ok (.iaload, 1) := by decide +kernel
theorem dX10_brew_36 : decode cX10_brew 36 = .ok (.iconst 1, 1) := by decide +kernel
theorem dX10_brew_37 : decode cX10_brew 37 = .ok (.if_icmp .ne 10, 3) := by decide +kernel
theorem dX10_brew_40 : decode cX10_brew 40 = .ok (.aload_n 0, 1) := by decide +kernel
theorem dX10_brew_41 : decode cX10_brew 41 = .ok (.bipush (-2), 2) := by decide +kernel
theorem dX10_brew_43 : decode cX10_brew 43 = .ok (.invokevirtual 145, 3) := by decide +kernel
theorem dX10_brew_46 : decode cX10_brew 46 = .ok (.ireturn, 1) := by decide +kernel
theorem dX10_brew_47 : decode cX10_brew 47 = .ok (.iload_n 2, 1) := by decide +kernel
theorem dX10_brew_48 : decode cX10_brew 48 = .ok (.ifCond .ge 10, 3) := by decide +kernel
theorem dX10_brew_51 : decode cX10_brew 51 = .ok (.aload_n 0, 1) := by decide +kernel
theorem dX10_brew_52 : decode cX10_brew 52 = .ok (.bipush (-4), 2) := by decide +kernel
theorem dX10_brew_54 : decode cX10_brew 54 = .ok (.invokevirtual 145, 3) := by decide +kernel
theorem dX10_brew_57 : decode cX10_brew 57 = .ok (.ireturn, 1) := by decide +kernel
theorem dX10_brew_58 : decode cX10_brew 58 = .ok (.iload_n 2, 1) := by decide +kernel
theorem dX10_brew_59 : decode cX10_brew 59 = .ok (.aload_n 0, 1) := by decide +kernel
theorem dX10_brew_60 : decode cX10_brew 60 = .ok (.getfield 39, 3) := by decide +kernel
theorem dX10_brew_63 : decode cX10_brew 63 = .ok (.iload_n 1, 1) := by decide +kernel
theorem dX10_brew_64 : decode cX10_brew 64 = .ok (.iaload, 1) := by decide +kernel
theorem dX10_brew_65 : decode cX10_brew 65 = .ok (.if_icmp .le 10, 3) := by decide +kernel
theorem dX10_brew_68 : decode cX10_brew 68 = .ok (.aload_n 0, 1) := by decide +kernel
theorem dX10_brew_69 : decode cX10_brew 69 = .ok (.bipush (-6), 2) := by decide +kernel
theorem dX10_brew_71 : decode cX10_brew 71 = .ok (.invokevirtual 145, 3) := by decide +kernel
theorem dX10_brew_74 : decode cX10_brew 74 = .ok (.ireturn, 1) := by decide +kernel
theorem dX10_brew_75 : decode cX10_brew 75 = .ok (.aload_n 0, 1) := by decide +kernel
theorem dX10_brew_76 : decode cX10_brew 76 = .ok (.getfield 39, 3) := by decide +kernel
theorem dX10_brew_79 : decode cX10_brew 79 = .ok (.iload_n 1, 1) := by decide +kernel
theorem dX10_brew_80 : decode cX10_brew 80 = .ok (.dup2, 1) := by decide +kernel
theorem dX10_brew_81 : decode cX10_brew 81 = .ok (.iaload, 1) := by decide +kernel
theorem dX10_brew_82 : decode cX10_brew 82 = .ok (.iload_n 2, 1) := by decide +kernel
theorem dX10_brew_83 : decode cX10_brew 83 = .ok (.isub, 1) := by decide +kernel
theorem dX10_brew_84 : decode cX10_brew 84 = .ok (.iastore, 1) := by decide +kernel
theorem dX10_brew_85 : decode cX10_brew 85 = .ok (.aload_n 0, 1) := by decide +kernel
theorem dX10_brew_86 : decode cX10_brew 86 = .ok (.getfield 39, 3) := by decide +kernel
theorem dX10_brew_89 : decode cX10_brew 89 = .ok (.iload_n 1, 1) := by decide +kernel
theorem dX10_brew_90 : decode cX10_brew 90 = .ok (.iaload, 1) := by decide +kernel
theorem dX10_brew_91 : decode cX10_brew 91 = .ok (.ireturn, 1) := by decide +kernel
theorem dX10_turn_0 : decode cX10_turn 0 = .ok (.aload_n 0, 1) := by decide +kernel
theorem dX10_turn_1 : decode cX10_turn 1 = .ok (.iload_n 1, 1) := by decide +kernel
theorem dX10_turn_2 : decode cX10_turn 2 = .ok (.invokevirtual 156, 3) := by decide +kernel
theorem dX10_turn_5 : decode cX10_turn 5 = .ok (.ifCond .eq 12, 3) := by decide +kernel
theorem dX10_turn_8 : decode cX10_turn 8 = .ok (.iload_n 2, 1) := by decide +kernel
theorem dX10_turn_9 : decode cX10_turn 9 = .ok (.iconst 0, 1) := by decide +kernel
theorem dX10_turn_10 : decode cX10_turn 10 = .ok (.iconst 2, 1) := by decide +kernel
theorem dX10_turn_11 : decode cX10_turn 11 = .ok (.invokestatic 138, 3) := by decide +kernel
theorem dX10_turn_14 : decode cX10_turn 14 = .ok (.ifCond .ne 9, 3) := by decide +kernel
theorem dX10_turn_17 : decode cX10_turn 17 = .ok (.aload_n 0, 1) := by decide +kernel
theorem dX10_turn_18 : decode cX10_turn 18 = .ok (.iconst (-1), 1) := by decide +kernel
theorem dX10_turn_19 : decode cX10_turn 19 = .ok (.invokevirtual 145, 3) := by decide +kernel
theorem dX10_turn_22 : decode cX10_turn 22 = .ok (.ireturn, 1) := by decide +kernel
theorem dX10_turn_23 : decode cX10_turn 23 = .ok (.iload_n 3, 1) := by decide +kernel
theorem dX10_turn_24 : decode cX10_turn 24 = .ok (.ifCond .lt 14, 3) := by decide +kernel
theorem dX10_turn_27 : decode cX10_turn 27 = .ok (.iload 4, 2) := by decide +kernel
theorem dX10_turn_29 : decode cX10_turn 29 = .ok (.ifCond .lt 9, 3) := by decide +kernel
theorem dX10_turn_32 : decode cX10_turn 32 = .ok (.iload 5, 2) := by decide +kernel
theorem dX10_turn_34 : decode cX10_turn 34 = .ok (.iconst 1, 1) := by decide +kernel
theorem dX10_turn_35 : decode cX10_turn 35 = .ok (.if_icmp .ge 10, 3) := by decide +kernel
theorem dX10_turn_38 : decode cX10_turn 38 = .ok (.aload_n 0, 1) := by decide +kernel
theorem dX10_turn_39 : decode cX10_turn 39 = .ok (.bipush (-4), 2) := by decide +kernel
theorem dX10_turn_41 : decode cX10_turn 41 = .ok (.invokevirtual 145, 3) := by decide +kernel
theorem dX10_turn_44 : decode cX10_turn 44 = .ok (.ireturn, 1) := by decide +kernel
theorem dX10_turn_45 : decode cX10_turn 45 = .ok (.iload_n 3, 1) := by decide +kernel
theorem dX10_turn_46 : decode cX10_turn 46 = .ok (.bipush 6, 2) := by decide +kernel
theorem dX10_turn_48 : decode cX10_turn 48 = .ok (.if_icmp .gt 26, 3) := by decide +kernel
theorem dX10_turn_51 : decode cX10_turn 51 = .ok (.iload 4, 2) := by decide +kernel
theorem dX10_turn_53 : decode cX10_turn 53 = .ok (.bipush 23, 2) := by decide +kernel
theorem dX10_turn_55 : decode cX10_turn 55 = .ok (.if_icmp .gt 19, 3) := by decide +kernel
theorem dX10_turn_58 : decode cX10_turn 58 = .ok (.iload 5, 2) := by decide +kernel
theorem dX10_turn_60 : decode cX10_turn 60 = .ok (.bipush 6, 2) := by decide +kernel
theorem dX10_turn_62 : decode cX10_turn 62 = .ok (.if_icmp .gt 12, 3) := by decide +kernel
theorem dX10_turn_65 : decode cX10_turn 65 = .ok (.aload_n 0, 1) := by decide +kernel
theorem dX10_turn_66 : decode cX10_turn 66 = .ok (.getfield 164, 3) := by decide +kernel
theorem dX10_turn_69 : decode cX10_turn 69 = .ok (.bipush 30, 2) := by decide +kernel
theorem dX10_turn_71 : decode cX10_turn 71 = .ok (.if_icmp .ne 10, 3) := by decide +kernel
theorem dX10_turn_74 : decode cX10_turn 74 = .ok (.aload_n 0, 1) := by decide +kernel
theorem dX10_turn_75 : decode cX10_turn 75 = .ok (.bipush (-6), 2) := by decide +kernel
theorem dX10_turn_77 : decode cX10_turn 77 = .ok (.invokevirtual 145, 3) := by decide +kernel
theorem dX10_turn_80 : decode cX10_turn 80 = .ok (.ireturn, 1) := by decide +kernel
theorem dX10_turn_81 : decode cX10_turn 81 = .ok (.aload_n 0, 1) := by decide +kernel
theorem dX10_turn_82 : decode cX10_turn 82 = .ok (.getfield 75, 3) := by decide +kernel
theorem dX10_turn_85 : decode cX10_turn 85 = .ok (.aload_n 0, 1) := by decide +kernel
theorem dX10_turn_86 : decode cX10_turn 86 = .ok (.getfield 164, 3) := by decide +kernel
theorem dX10_turn_89 : decode cX10_turn 89 = .ok (.iload_n 1, 1) := by decide +kernel
theorem dX10_turn_90 : decode cX10_turn 90 = .ok (.iastore, 1) := by decide +kernel
theorem dX10_turn_91 : decode cX10_turn 91 = .ok (.aload_n 0, 1) := by decide +kernel
theorem dX10_turn_92 : decode cX10_turn 92 = .ok (.getfield 78, 3) := by decide +kernel
theorem dX10_turn_95 : decode cX10_turn 95 = .ok (.aload_n 0, 1) := by decide +kernel
theorem dX10_turn_96 : decode cX10_turn 96 = .ok (.getfield 164, 3) := by decide +kernel
theorem dX10_turn_99 : decode cX10_turn 99 = .ok (.iload_n 2, 1) := by decide +kernel
theorem dX10_turn_100 : decode cX10_turn 100 = .ok (.iastore, 1) := by decide +kernel
theorem dX10_turn_101 : decode cX10_turn 101 = .ok (.aload_n 0, 1) := by decide +kernel
theorem dX10_turn_102 : decode cX10_turn 102 = .ok (.getfield 81, 3) := by decide +kernel
theorem dX10_turn_105 : decode cX10_turn 105 = .ok (.aload_n 0, 1) := by decide +kernel
theorem dX10_turn_106 : decode cX10_turn 106 = .ok (.getfield 164, 3) := by decide +kernel
theorem dX10_turn_109 : decode cX10_turn 109 = .ok (.bipush 24, 2) := by decide +kernel
theorem dX10_turn_111 : decode cX10_turn 111 = .ok (.iload_n 3, 1) := by decide +kernel
theorem dX10_turn_112 : decode cX10_turn 112 = .ok (.imul, 1) := by decide +kernel
theorem dX10_turn_113 : decode cX10_turn 113 = .ok (.iload 4, 2) := by decide +kernel
theorem dX10_turn_115 : decode cX10_turn 115 = .ok (.iadd, 1) := by decide +kernel
theorem dX10_turn_116 : decode cX10_turn 116 = .ok (.iastore, 1) := by decide +kernel
theorem dX10_turn_117 : decode cX10_turn 117 = .ok (.aload_n 0, 1) := by decide +kernel
theorem dX10_turn_118 : decode cX10_turn 118 = .ok (.getfield 84, 3) := by decide +kernel
theorem dX10_turn_121 : decode cX10_turn 121 = .ok (.aload_n 0, 1) := by decide +kernel
theorem dX10_turn_122 : decode cX10_turn 122 = .ok (.getfield 164, 3) := by decide +kernel
theorem dX10_turn_125 : decode cX10_turn 125 = .ok (.iload 5, 2) := by decide +kernel
theorem dX10_turn_127 : decode cX10_turn 127 = .ok (.iastore, 1) := by decide +kernel
theorem dX10_turn_128 : decode cX10_turn 128 = .ok (.aload_n 0, 1) := by decide +kernel
theorem dX10_turn_129 : decode cX10_turn 129 = .ok (.dup, 1) := by decide +kernel
theorem dX10_turn_130 : decode cX10_turn 130 = .ok (.getfield 164, 3) := by decide +kernel
theorem dX10_turn_133 : decode cX10_turn 133 = .ok (.iconst 1, 1) := by decide +kernel
theorem dX10_turn_134 : decode cX10_turn 134 = .ok (.iadd, 1) := by decide +kernel
theorem dX10_turn_135 : decode cX10_turn 135 = .ok (.putfield 164, 3) := by decide +kernel
theorem dX10_turn_138 : decode cX10_turn 138 = .ok (.aload_n 0, 1) := by decide +kernel
theorem dX10_turn_139 : decode cX10_turn 139 = .ok (.getfield 164, 3) := by decide +kernel
theorem dX10_turn_142 : decode cX10_turn 142 = .ok (.iconst 1, 1) := by decide +kernel
theorem dX10_turn_143 : decode cX10_turn 143 = .ok (.isub, 1) := by decide +kernel
theorem dX10_turn_144 : decode cX10_turn 144 = .ok (.ireturn, 1) := by decide +kernel
theorem dX10_isLet_0 : decode cX10_isLet 0 = .ok (.iconst 0, 1) := by decide +kernel
theorem dX10_isLet_1 : decode cX10_isLet 1 = .ok (.istore_n 3, 1) := by decide +kernel
theorem dX10_isLet_2 : decode cX10_isLet 2 = .ok (.iload_n 3, 1) := by decide +kernel
theorem dX10_isLet_3 : decode cX10_isLet 3 = .ok (.aload_n 0, 1) := by decide +kernel
theorem dX10_isLet_4 : decode cX10_isLet 4 = .ok (.getfield 164, 3) := by decide +kernel
theorem dX10_isLet_7 : decode cX10_isLet 7 = .ok (.if_icmp .ge 46, 3) := by decide +kernel
theorem dX10_isLet_10 : decode cX10_isLet 10 = .ok (.aload_n 0, 1) := by decide +kernel
theorem dX10_isLet_11 : decode cX10_isLet 11 = .ok (.getfield 75, 3) := by decide +kernel
theorem dX10_isLet_14 : decode cX10_isLet 14 = .ok (.iload_n 3, 1) := by decide +kernel
theorem dX10_isLet_15 : decode cX10_isLet 15 = .ok (.iaload, 1) := by decide +kernel
theorem dX10_isLet_16 : decode cX10_isLet 16 = .ok (.iload_n 1, 1) := by decide +kernel
theorem dX10_isLet_17 : decode cX10_isLet 17 = .ok (.if_icmp .ne 30, 3) := by decide +kernel
theorem dX10_isLet_20 : decode cX10_isLet 20 = .ok (.iload_n 2, 1) := by decide +kernel
theorem dX10_isLet_21 : decode cX10_isLet 21 = .ok (.aload_n 0, 1) := by decide +kernel
theorem dX10_isLet_22 : decode cX10_isLet 22 = .ok (.getfield 81, 3) := by decide +kernel
theorem dX10_isLet_25 : decode cX10_isLet 25 = .ok (.iload_n 3, 1) := by decide +kernel
theorem dX10_isLet_26 : decode cX10_isLet 26 = .ok (.iaload, 1) := by decide +kernel
theorem dX10_isLet_27 : decode cX10_isLet 27 = .ok (.isub, 1) := by decide +kernel
theorem dX10_isLet_28 : decode cX10_isLet 28 = .ok (.sipush 168, 3) := by decide +kernel
theorem dX10_isLet_31 : decode cX10_isLet 31 = .ok (.iadd, 1) := by decide +kernel
theorem dX10_isLet_32 : decode cX10_isLet 32 = .ok (.sipush 168, 3) := by decide +kernel
theorem dX10_isLet_35 : decode cX10_isLet 35 = .ok (.irem, 1) := by decide +kernel
theorem dX10_isLet_36 : decode cX10_isLet 36 = .ok (.aload_n 0, 1) := by decide +kernel
theorem dX10_isLet_37 : decode cX10_isLet 37 = .ok (.getfield 84, 3) := by decide +kernel
theorem dX10_isLet_40 : decode cX10_isLet 40 = .ok (.iload_n 3, 1) := by decide +kernel
theorem dX10_isLet_41 : decode cX10_isLet 41 = .ok (.iaload, 1) := by decide +kernel
theorem dX10_isLet_42 : decode cX10_isLet 42 = .ok (.if_icmp .ge 5, 3) := by decide +kernel
theorem dX10_isLet_45 : decode cX10_isLet 45 = .ok (.iconst 1, 1) := by decide +kernel
theorem dX10_isLet_46 : decode cX10_isLet 46 = .ok (.ireturn, 1) := by decide +kernel
theorem dX10_isLet_47 : decode cX10_isLet 47 = .ok (.iinc 3 1, 3) := by decide +kernel
theorem dX10_isLet_50 : decode cX10_isLet 50 = .ok (.goto (-48), 3) := by decide +kernel
theorem dX10_isLet_53 : decode cX10_isLet 53 = .ok (.iconst 0, 1) := by decide +kernel
theorem dX10_isLet_54 : decode cX10_isLet 54 = .ok (.ireturn, 1) := by decide +kernel
theorem dX10_isOpen_0 : decode cX10_isOpen 0 = .ok (.iconst 1, 1) := by decide +kernel
theorem dX10_isOpen_1 : decode cX10_isOpen 1 = .ok (.istore_n 3, 1) := by decide +kernel
theorem dX10_isOpen_2 : decode cX10_isOpen 2 = .ok (.iload_n 1, 1) := by decide +kernel
theorem dX10_isOpen_3 : decode cX10_isOpen 3 = .ok (.istore 4, 2) := by decide +kernel
theorem dX10_isOpen_5 : decode cX10_isOpen 5 = .ok (.iload 4, 2) := by decide +kernel
theorem dX10_isOpen_7 : decode cX10_isOpen 7 = .ok (.ifCond .lt 27, 3) := by decide +kernel
theorem dX10_isOpen_10 : decode cX10_isOpen 10 = .ok (.iload_n 3, 1) := by decide +kernel
theorem dX10_isOpen_11 : decode cX10_isOpen 11 = .ok (.ifCond .eq 23, 3) := by decide +kernel
theorem dX10_isOpen_14 : decode cX10_isOpen 14 = .ok (.aload_n 0, 1) := by decide +kernel
theorem dX10_isOpen_15 : decode cX10_isOpen 15 = .ok (.iload 4, 2) := by decide +kernel
theorem dX10_isOpen_17 : decode cX10_isOpen 17 = .ok (.iload_n 2, 1) := by decide +kernel
theorem dX10_isOpen_18 : decode cX10_isOpen 18 = .ok (.invokevirtual 167, 3) := by decide +kernel
theorem dX10_isOpen_21 : decode cX10_isOpen 21 = .ok (.istore_n 3, 1) := by decide +kernel
theorem dX10_isOpen_22 : decode cX10_isOpen 22 = .ok (.aload_n 0, 1) := by decide +kernel
theorem dX10_isOpen_23 : decode cX10_isOpen 23 = .ok (.getfield 19, 3) := by decide +kernel
theorem dX10_isOpen_26 : decode cX10_isOpen 26 = .ok (.iload 4, 2) := by decide +kernel
theorem dX10_isOpen_28 : decode cX10_isOpen 28 = .ok (.iaload, 1) := by decide +kernel
theorem dX10_isOpen_29 : decode cX10_isOpen 29 = .ok (.istore 4, 2) := by decide +kernel
theorem dX10_isOpen_31 : decode cX10_isOpen 31 = .ok (.goto (-26), 3) := by decide +kernel
theorem dX10_isOpen_34 : decode cX10_isOpen 34 = .ok (.iload_n 3, 1) := by decide +kernel
theorem dX10_isOpen_35 : decode cX10_isOpen 35 = .ok (.ireturn, 1) := by decide +kernel
theorem dX10_let_0 : decode cX10_let 0 = .ok (.aload_n 0, 1) := by decide +kernel
theorem dX10_let_1 : decode cX10_let 1 = .ok (.iload_n 1, 1) := by decide +kernel
theorem dX10_let_2 : decode cX10_let 2 = .ok (.invokevirtual 156, 3) := by decide +kernel
theorem dX10_let_5 : decode cX10_let 5 = .ok (.ifCond .ne 9, 3) := by decide +kernel
theorem dX10_let_8 : decode cX10_let 8 = .ok (.aload_n 0, 1) := by decide +kernel
theorem dX10_let_9 : decode cX10_let 9 = .ok (.iconst (-1), 1) := by decide +kernel
theorem dX10_let_10 : decode cX10_let 10 = .ok (.invokevirtual 145, 3) := by decide +kernel
theorem dX10_let_13 : decode cX10_let 13 = .ok (.ireturn, 1) := by decide +kernel
theorem dX10_let_14 : decode cX10_let 14 = .ok (.iload_n 2, 1) := by decide +kernel
theorem dX10_let_15 : decode cX10_let 15 = .ok (.ifCond .ge 10, 3) := by decide +kernel
theorem dX10_let_18 : decode cX10_let 18 = .ok (.aload_n 0, 1) := by decide +kernel
theorem dX10_let_19 : decode cX10_let 19 = .ok (.bipush (-4), 2) := by decide +kernel
theorem dX10_let_21 : decode cX10_let 21 = .ok (.invokevirtual 145, 3) := by decide +kernel
theorem dX10_let_24 : decode cX10_let 24 = .ok (.ireturn, 1) := by decide +kernel
theorem dX10_let_25 : decode cX10_let 25 = .ok (.iload_n 2, 1) := by decide +kernel
theorem dX10_let_26 : decode cX10_let 26 = .ok (.sipush 167, 3) := by decide +kernel
theorem dX10_let_29 : decode cX10_let 29 = .ok (.if_icmp .le 10, 3) := by decide +kernel
theorem dX10_let_32 : decode cX10_let 32 = .ok (.aload_n 0, 1) := by decide +kernel
theorem dX10_let_33 : decode cX10_let 33 = .ok (.bipush (-6), 2) := by decide +kernel
theorem dX10_let_35 : decode cX10_let 35 = .ok (.invokevirtual 145, 3) := by decide +kernel
theorem dX10_let_38 : decode cX10_let 38 = .ok (.ireturn, 1) := by decide +kernel
theorem dX10_let_39 : decode cX10_let 39 = .ok (.iload_n 3, 1) := by decide +kernel
theorem dX10_let_40 : decode cX10_let 40 = .ok (.iconst 0, 1) := by decide +kernel
theorem dX10_let_41 : decode cX10_let 41 = .ok (.iconst 1, 1) := by decide +kernel
theorem dX10_let_42 : decode cX10_let 42 = .ok (.invokestatic 138, 3) := by decide +kernel
theorem dX10_let_45 : decode cX10_let 45 = .ok (.ifCond .ne 10, 3) := by decide +kernel
theorem dX10_let_48 : decode cX10_let 48 = .ok (.aload_n 0, 1) := by decide +kernel
theorem dX10_let_49 : decode cX10_let 49 = .ok (.bipush (-2), 2) := by decide +kernel
theorem dX10_let_51 : decode cX10_let 51 = .ok (.invokevirtual 145, 3) := by decide +kernel
theorem dX10_let_54 : decode cX10_let 54 = .ok (.ireturn, 1) := by decide +kernel
theorem dX10_let_55 : decode cX10_let 55 = .ok (.iload_n 3, 1) := by decide +kernel
theorem dX10_let_56 : decode cX10_let 56 = .ok (.ifCond .ne 20, 3) := by decide +kernel
theorem dX10_let_59 : decode cX10_let 59 = .ok (.aload_n 0, 1) := by decide +kernel
theorem dX10_let_60 : decode cX10_let 60 = .ok (.iload_n 1, 1) := by decide +kernel
theorem dX10_let_61 : decode cX10_let 61 = .ok (.iload_n 2, 1) := by decide +kernel
theorem dX10_let_62 : decode cX10_let 62 = .ok (.invokevirtual 167, 3) := by decide +kernel
theorem dX10_let_65 : decode cX10_let 65 = .ok (.ifCond .eq 7, 3) := by decide +kernel
theorem dX10_let_68 : decode cX10_let 68 = .ok (.iconst 1, 1) := by decide +kernel
theorem dX10_let_69 : decode cX10_let 69 = .ok (.goto 21, 3) := by decide +kernel
theorem dX10_let_72 : decode cX10_let 72 = .ok (.iconst 0, 1) := by decide +kernel
theorem dX10_let_73 : decode cX10_let 73 = .ok (.goto 17, 3) := by decide +kernel
theorem dX10_let_76 : decode cX10_let 76 = .ok (.aload_n 0, 1) := by decide +kernel
theorem dX10_let_77 : decode cX10_let 77 = .ok (.iload_n 1, 1) := by decide +kernel
theorem dX10_let_78 : decode cX10_let 78 = .ok (.iload_n 2, 1) := by decide +kernel
theorem dX10_let_79 : decode cX10_let 79 = .ok (.invokevirtual 171, 3) := by decide +kernel
theorem dX10_let_82 : decode cX10_let 82 = .ok (.ifCond .eq 7, 3) := by decide +kernel
theorem dX10_let_85 : decode cX10_let 85 = .ok (.iconst 1, 1) := by decide +kernel
theorem dX10_let_86 : decode cX10_let 86 = .ok (.goto 4, 3) := by decide +kernel
theorem dX10_let_89 : decode cX10_let 89 = .ok (.iconst 0, 1) := by decide +kernel
theorem dX10_let_90 : decode cX10_let 90 = .ok (.ireturn, 1) := by decide +kernel
theorem dX10_isOnWay_0 : decode cX10_isOnWay 0 = .ok (.iload_n 2, 1) := by decide +kernel
theorem dX10_isOnWay_1 : decode cX10_isOnWay 1 = .ok (.istore_n 3, 1) := by decide +kernel
theorem dX10_isOnWay_2 : decode cX10_isOnWay 2 = .ok (.iload_n 3, 1) := by decide +kernel
theorem dX10_isOnWay_3 : decode cX10_isOnWay 3 = .ok (.ifCond .lt 20, 3) := by decide +kernel
theorem dX10_isOnWay_6 : decode cX10_isOnWay 6 = .ok (.iload_n 3, 1) := by decide +kernel
theorem dX10_isOnWay_7 : decode cX10_isOnWay 7 = .ok (.iload_n 1, 1) := by decide +kernel
theorem dX10_isOnWay_8 : decode cX10_isOnWay 8 = .ok (.if_icmp .ne 5, 3) := by decide +kernel
theorem dX10_isOnWay_11 : decode cX10_isOnWay 11 = .ok (.iconst 1, 1) := by decide +kernel
theorem dX10_isOnWay_12 : decode cX10_isOnWay 12 = .ok (.ireturn, 1) := by decide +kernel
theorem dX10_isOnWay_13 : decode cX10_isOnWay 13 = .ok (.aload_n 0, 1) := by decide +kernel
theorem dX10_isOnWay_14 : decode cX10_isOnWay 14 = .ok (.getfield 19, 3) := by decide +kernel
theorem dX10_isOnWay_17 : decode cX10_isOnWay 17 = .ok (.iload_n 3, 1) := by decide +kernel
theorem dX10_isOnWay_18 : decode cX10_isOnWay 18 = .ok (.iaload, 1) := by decide +kernel
theorem dX10_isOnWay_19 : decode cX10_isOnWay 19 = .ok (.istore_n 3, 1) := by decide +kernel
theorem dX10_isOnWay_20 : decode cX10_isOnWay 20 = .ok (.goto (-18), 3) := by decide +kernel
theorem dX10_isOnWay_23 : decode cX10_isOnWay 23 = .ok (.iload_n 1, 1) := by decide +kernel
theorem dX10_isOnWay_24 : decode cX10_isOnWay 24 = .ok (.iconst (-1), 1) := by decide +kernel
theorem dX10_isOnWay_25 : decode cX10_isOnWay 25 = .ok (.if_icmp .ne 7, 3) := by decide +kernel
theorem dX10_isOnWay_28 : decode cX10_isOnWay 28 = .ok (.iconst 1, 1) := by decide +kernel
theorem dX10_isOnWay_29 : decode cX10_isOnWay 29 = .ok (.goto 4, 3) := by decide +kernel
theorem dX10_isOnWay_32 : decode cX10_isOnWay 32 = .ok (.iconst 0, 1) := by decide +kernel
theorem dX10_isOnWay_33 : decode cX10_isOnWay 33 = .ok (.ireturn, 1) := by decide +kernel
theorem dX10_wayOf_0 : decode cX10_wayOf 0 = .ok (.iconst 0, 1) := by decide +kernel
theorem dX10_wayOf_1 : decode cX10_wayOf 1 = .ok (.istore_n 3, 1) := by decide +kernel
theorem dX10_wayOf_2 : decode cX10_wayOf 2 = .ok (.iload_n 1, 1) := by decide +kernel
theorem dX10_wayOf_3 : decode cX10_wayOf 3 = .ok (.istore 4, 2) := by decide +kernel
theorem dX10_wayOf_5 : decode cX10_wayOf 5 = .ok (.aload_n 0, 1) := by decide +kernel
theorem dX10_wayOf_6 : decode cX10_wayOf 6 = .ok (.iload 4, 2) := by decide +kernel
theorem dX10_wayOf_8 : decode cX10_wayOf 8 = .ok (.iload_n 2, 1) := by decide +kernel
theorem dX10_wayOf_9 : decode cX10_wayOf 9 = .ok (.invokevirtual 174, 3) := by decide +kernel
theorem dX10_wayOf_12 : decode cX10_wayOf 12 = .ok (.ifCond .ne 18, 3) := by decide +kernel
theorem dX10_wayOf_15 : decode cX10_wayOf 15 = .ok (.aload_n 0, 1) := by decide +kernel
theorem dX10_wayOf_16 : decode cX10_wayOf 16 = .ok (.getfield 19, 3) := by decide +kernel
theorem dX10_wayOf_19 : decode cX10_wayOf 19 = .ok (.iload 4, 2) := by decide +kernel
theorem dX10_wayOf_21 : decode cX10_wayOf 21 = .ok (.iaload, 1) := by decide +kernel
theorem dX10_wayOf_22 : decode cX10_wayOf 22 = .ok (.istore 4, 2) := by decide +kernel
theorem dX10_wayOf_24 : decode cX10_wayOf 24 = .ok (.iinc 3 1, 3) := by decide +kernel
theorem dX10_wayOf_27 : decode cX10_wayOf 27 = .ok (.goto (-22), 3) := by decide +kernel
theorem dX10_wayOf_30 : decode cX10_wayOf 30 = .ok (.iload_n 2, 1) := by decide +kernel
theorem dX10_wayOf_31 : decode cX10_wayOf 31 = .ok (.istore 5, 2) := by decide +kernel
theorem dX10_wayOf_33 : decode cX10_wayOf 33 = .ok (.iload 5, 2) := by decide +kernel
theorem dX10_wayOf_35 : decode cX10_wayOf 35 = .ok (.iload 4, 2) := by decide +kernel
theorem dX10_wayOf_37 : decode cX10_wayOf 37 = .ok (.if_icmp .eq 18, 3) := by decide +kernel
theorem dX10_wayOf_40 : decode cX10_wayOf 40 = .ok (.iinc 3 1, 3) := by decide +kernel
theorem dX10_wayOf_43 : decode cX10_wayOf 43 = .ok (.aload_n 0, 1) := by decide +kernel
theorem dX10_wayOf_44 : decode cX10_wayOf 44 = .ok (.getfield 19, 3) := by decide +kernel
theorem dX10_wayOf_47 : decode cX10_wayOf 47 = .ok (.iload 5, 2) := by decide +kernel
theorem dX10_wayOf_49 : decode cX10_wayOf 49 = .ok (.iaload, 1) := by decide +kernel
theorem dX10_wayOf_50 : decode cX10_wayOf 50 = .ok (.istore 5, 2) := by decide +kernel
theorem dX10_wayOf_52 : decode cX10_wayOf 52 = .ok (.goto (-19), 3) := by decide +kernel
theorem dX10_wayOf_55 : decode cX10_wayOf 55 = .ok (.iload_n 3, 1) := by decide +kernel
theorem dX10_wayOf_56 : decode cX10_wayOf 56 = .ok (.ireturn, 1) := by decide +kernel
theorem dX10_way_0 : decode cX10_way 0 = .ok (.iload_n 1, 1) := by decide +kernel
theorem dX10_way_1 : decode cX10_way 1 = .ok (.iconst (-1), 1) := by decide +kernel
theorem dX10_way_2 : decode cX10_way 2 = .ok (.aload_n 0, 1) := by decide +kernel
theorem dX10_way_3 : decode cX10_way 3 = .ok (.getfield 135, 3) := by decide +kernel
theorem dX10_way_6 : decode cX10_way 6 = .ok (.iconst 1, 1) := by decide +kernel
theorem dX10_way_7 : decode cX10_way 7 = .ok (.isub, 1) := by decide +kernel
theorem dX10_way_8 : decode cX10_way 8 = .ok (.invokestatic 138, 3) := by decide +kernel
theorem dX10_way_11 : decode cX10_way 11 = .ok (.ifCond .eq 26, 3) := by decide +kernel
theorem dX10_way_14 : decode cX10_way 14 = .ok (.iload_n 2, 1) := by decide +kernel
theorem dX10_way_15 : decode cX10_way 15 = .ok (.iconst (-1), 1) := by decide +kernel
theorem dX10_way_16 : decode cX10_way 16 = .ok (.aload_n 0, 1) := by decide +kernel
theorem dX10_way_17 : decode cX10_way 17 = .ok (.getfield 135, 3) := by decide +kernel
theorem dX10_way_20 : decode cX10_way 20 = .ok (.iconst 1, 1) := by decide +kernel
theorem dX10_way_21 : decode cX10_way 21 = .ok (.isub, 1) := by decide +kernel
theorem dX10_way_22 : decode cX10_way 22 = .ok (.invokestatic 138, 3) := by decide +kernel
theorem dX10_way_25 : decode cX10_way 25 = .ok (.ifCond .eq 12, 3) := by decide +kernel
theorem dX10_way_28 : decode cX10_way 28 = .ok (.aload_n 0, 1) := by decide +kernel
theorem dX10_way_29 : decode cX10_way 29 = .ok (.iload_n 1, 1) := by decide +kernel
theorem dX10_way_30 : decode cX10_way 30 = .ok (.iload_n 2, 1) := by decide +kernel
theorem dX10_way_31 : decode cX10_way 31 = .ok (.invokevirtual 177, 3) := by decide +kernel
theorem dX10_way_34 : decode cX10_way 34 = .ok (.goto 8, 3) := by decide +kernel
theorem dX10_way_37 : decode cX10_way 37 = .ok (.aload_n 0, 1) := by decide +kernel
theorem dX10_way_38 : decode cX10_way 38 = .ok (.iconst (-1), 1) := by decide +kernel
theorem dX10_way_39 : decode cX10_way 39 = .ok (.invokevirtual 145, 3) := by decide +kernel
theorem dX10_way_42 : decode cX10_way 42 = .ok (.ireturn, 1) := by decide +kernel
theorem dX10_clash_0 : decode cX10_clash 0 = .ok (.aload_n 0, 1) := by decide +kernel
theorem dX10_clash_1 : decode cX10_clash 1 = .ok (.aload_n 0, 1) := by decide +kernel
theorem dX10_clash_2 : decode cX10_clash 2 = .ok (.getfield 75, 3) := by decide +kernel
theorem dX10_clash_5 : decode cX10_clash 5 = .ok (.iload_n 1, 1) := by decide +kernel
theorem dX10_clash_6 : decode cX10_clash 6 = .ok (.iaload, 1) := by decide +kernel
theorem dX10_clash_7 : decode cX10_clash 7 = .ok (.aload_n 0, 1) := by decide +kernel
theorem dX10_clash_8 : decode cX10_clash 8 = .ok (.getfield 75, 3) := by decide +kernel
theorem dX10_clash_11 : decode cX10_clash 11 = .ok (.iload_n 2, 1) := by decide +kernel
theorem dX10_clash_12 : decode cX10_clash 12 = .ok (.iaload, 1) := by decide +kernel
theorem dX10_clash_13 : decode cX10_clash 13 = .ok (.invokevirtual 177, 3) := by decide +kernel
theorem dX10_clash_16 : decode cX10_clash 16 = .ok (.iconst 1, 1) := by decide +kernel
theorem dX10_clash_17 : decode cX10_clash 17 = .ok (.iadd, 1) := by decide +kernel
theorem dX10_clash_18 : decode cX10_clash 18 = .ok (.iconst 2, 1) := by decide +kernel
theorem dX10_clash_19 : decode cX10_clash 19 = .ok (.idiv, 1) := by decide +kernel
theorem dX10_clash_20 : decode cX10_clash 20 = .ok (.istore_n 3, 1) := by decide +kernel
theorem dX10_clash_21 : decode cX10_clash 21 = .ok (.aload_n 0, 1) := by decide +kernel
theorem dX10_clash_22 : decode cX10_clash 22 = .ok (.getfield 81, 3) := by decide +kernel
theorem dX10_clash_25 : decode cX10_clash 25 = .ok (.iload_n 2, 1) := by decide +kernel
theorem dX10_clash_26 : decode cX10_clash 26 = .ok (.iaload, 1) := by decide +kernel
theorem dX10_clash_27 : decode cX10_clash 27 = .ok (.aload_n 0, 1) := by decide +kernel
theorem dX10_clash_28 : decode cX10_clash 28 = .ok (.getfield 81, 3) := by decide +kernel
theorem dX10_clash_31 : decode cX10_clash 31 = .ok (.iload_n 1, 1) := by decide +kernel
theorem dX10_clash_32 : decode cX10_clash 32 = .ok (.iaload, 1) := by decide +kernel
theorem dX10_clash_33 : decode cX10_clash 33 = .ok (.isub, 1) := by decide +kernel
theorem dX10_clash_34 : decode cX10_clash 34 = .ok (.sipush 168, 3) := by decide +kernel
theorem dX10_clash_37 : decode cX10_clash 37 = .ok (.iadd, 1) := by decide +kernel
theorem dX10_clash_38 : decode cX10_clash 38 = .ok (.sipush 168, 3) := by decide +kernel
theorem dX10_clash_41 : decode cX10_clash 41 = .ok (.irem, 1) := by decide +kernel
theorem dX10_clash_42 : decode cX10_clash 42 = .ok (.istore 4, 2) := by decide +kernel
theorem dX10_clash_44 : decode cX10_clash 44 = .ok (.aload_n 0, 1) := by decide +kernel
theorem dX10_clash_45 : decode cX10_clash 45 = .ok (.getfield 81, 3) := by decide +kernel
theorem dX10_clash_48 : decode cX10_clash 48 = .ok (.iload_n 1, 1) := by decide +kernel
theorem dX10_clash_49 : decode cX10_clash 49 = .ok (.iaload, 1) := by decide +kernel
theorem dX10_clash_50 : decode cX10_clash 50 = .ok (.aload_n 0, 1) := by decide +kernel
theorem dX10_clash_51 : decode cX10_clash 51 = .ok (.getfield 81, 3) := by decide +kernel
theorem dX10_clash_54 : decode cX10_clash 54 = .ok (.iload_n 2, 1) := by decide +kernel
theorem dX10_clash_55 : decode cX10_clash 55 = .ok (.iaload, 1) := by decide +kernel
theorem dX10_clash_56 : decode cX10_clash 56 = .ok (.isub, 1) := by decide +kernel
theorem dX10_clash_57 : decode cX10_clash 57 = .ok (.sipush 168, 3) := by decide +kernel
theorem dX10_clash_60 : decode cX10_clash 60 = .ok (.iadd, 1) := by decide +kernel
theorem dX10_clash_61 : decode cX10_clash 61 = .ok (.sipush 168, 3) := by decide +kernel
theorem dX10_clash_64 : decode cX10_clash 64 = .ok (.irem, 1) := by decide +kernel
theorem dX10_clash_65 : decode cX10_clash 65 = .ok (.istore 5, 2) := by decide +kernel
theorem dX10_clash_67 : decode cX10_clash 67 = .ok (.iload 4, 2) := by decide +kernel
theorem dX10_clash_69 : decode cX10_clash 69 = .ok (.aload_n 0, 1) := by decide +kernel
theorem dX10_clash_70 : decode cX10_clash 70 = .ok (.getfield 84, 3) := by decide +kernel
theorem dX10_clash_73 : decode cX10_clash 73 = .ok (.iload_n 1, 1) := by decide +kernel
theorem dX10_clash_74 : decode cX10_clash 74 = .ok (.iaload, 1) := by decide +kernel
theorem dX10_clash_75 : decode cX10_clash 75 = .ok (.if_icmp .lt 26, 3) := by decide +kernel
theorem dX10_clash_78 : decode cX10_clash 78 = .ok (.iload 5, 2) := by decide +kernel
theorem dX10_clash_80 : decode cX10_clash 80 = .ok (.aload_n 0, 1) := by decide +kernel
theorem dX10_clash_81 : decode cX10_clash 81 = .ok (.getfield 84, 3) := by decide +kernel
theorem dX10_clash_84 : decode cX10_clash 84 = .ok (.iload_n 2, 1) := by decide +kernel
theorem dX10_clash_85 : decode cX10_clash 85 = .ok (.iaload, 1) := by decide +kernel
theorem dX10_clash_86 : decode cX10_clash 86 = .ok (.if_icmp .lt 15, 3) := by decide +kernel
theorem dX10_clash_89 : decode cX10_clash 89 = .ok (.iload 4, 2) := by decide +kernel
theorem dX10_clash_91 : decode cX10_clash 91 = .ok (.iload_n 3, 1) := by decide +kernel
theorem dX10_clash_92 : decode cX10_clash 92 = .ok (.if_icmp .lt 9, 3) := by decide +kernel
theorem dX10_clash_95 : decode cX10_clash 95 = .ok (.iload 5, 2) := by decide +kernel
theorem dX10_clash_97 : decode cX10_clash 97 = .ok (.iload_n 3, 1) := by decide +kernel
theorem dX10_clash_98 : decode cX10_clash 98 = .ok (.if_icmp .ge 7, 3) := by decide +kernel
theorem dX10_clash_101 : decode cX10_clash 101 = .ok (.iconst 1, 1) := by decide +kernel
theorem dX10_clash_102 : decode cX10_clash 102 = .ok (.goto 4, 3) := by decide +kernel
theorem dX10_clash_105 : decode cX10_clash 105 = .ok (.iconst 0, 1) := by decide +kernel
theorem dX10_clash_106 : decode cX10_clash 106 = .ok (.ireturn, 1) := by decide +kernel
theorem dX10_clashes_0 : decode cX10_clashes 0 = .ok (.iload_n 1, 1) := by decide +kernel
theorem dX10_clashes_1 : decode cX10_clashes 1 = .ok (.iconst 0, 1) := by decide +kernel
theorem dX10_clashes_2 : decode cX10_clashes 2 = .ok (.iconst 2, 1) := by decide +kernel
theorem dX10_clashes_3 : decode cX10_clashes 3 = .ok (.invokestatic 138, 3) := by decide +kernel
theorem dX10_clashes_6 : decode cX10_clashes 6 = .ok (.ifCond .ne 9, 3) := by decide +kernel
theorem dX10_clashes_9 : decode cX10_clashes 9 = .ok (.aload_n 0, 1) := by decide +kernel
theorem dX10_clashes_10 : decode cX10_clashes 10 = .ok (.iconst (-1), 1) := by decide +kernel
theorem dX10_clashes_11 : decode cX10_clashes 11 = .ok (.invokevirtual 145, 3) := by decide +kernel
theorem dX10_clashes_14 : decode cX10_clashes 14 = .ok (.ireturn, 1) := by decide +kernel
theorem dX10_clashes_15 : decode cX10_clashes 15 = .ok (.iconst 0, 1) := by decide +kernel
theorem dX10_clashes_16 : decode cX10_clashes 16 = .ok (.istore_n 2, 1) := by decide +kernel
theorem dX10_clashes_17 : decode cX10_clashes 17 = .ok (.iconst 0, 1) := by decide +kernel
theorem dX10_clashes_18 : decode cX10_clashes 18 = .ok (.istore_n 3, 1) := by decide +kernel
theorem dX10_clashes_19 : decode cX10_clashes 19 = .ok (.iload_n 3, 1) := by decide +kernel
theorem dX10_clashes_20 : decode cX10_clashes 20 = .ok (.aload_n 0, 1) := by decide +kernel
theorem dX10_clashes_21 : decode cX10_clashes 21 = .ok (.getfield 164, 3) := by decide +kernel
theorem dX10_clashes_24 : decode cX10_clashes 24 = .ok (.if_icmp .ge 79, 3) := by decide +kernel
theorem dX10_clashes_27 : decode cX10_clashes 27 = .ok (.iconst 0, 1) := by decide +kernel
theorem dX10_clashes_28 : decode cX10_clashes 28 = .ok (.istore 4, 2) := by decide +kernel
theorem dX10_clashes_30 : decode cX10_clashes 30 = .ok (.iload 4, 2) := by decide +kernel
theorem dX10_clashes_32 : decode cX10_clashes 32 = .ok (.iload_n 3, 1) := by decide +kernel
theorem dX10_clashes_33 : decode cX10_clashes 33 = .ok (.if_icmp .ge 64, 3) := by decide +kernel
theorem dX10_clashes_36 : decode cX10_clashes 36 = .ok (.iload_n 2, 1) := by decide +kernel
theorem dX10_clashes_37 : decode cX10_clashes 37 = .ok (.aload_n 0, 1) := by decide +kernel
theorem dX10_clashes_38 : decode cX10_clashes 38 = .ok (.getfield 78, 3) := by decide +kernel
theorem dX10_clashes_41 : decode cX10_clashes 41 = .ok (.iload_n 3, 1) := by decide +kernel
theorem dX10_clashes_42 : decode cX10_clashes 42 = .ok (.iaload, 1) := by decide +kernel
theorem dX10_clashes_43 : decode cX10_clashes 43 = .ok (.iload_n 1, 1) := by decide +kernel
theorem dX10_clashes_44 : decode cX10_clashes 44 = .ok (.if_icmp .ne 44, 3) := by decide +kernel
theorem dX10_clashes_47 : decode cX10_clashes 47 = .ok (.aload_n 0, 1) := by decide +kernel
theorem dX10_clashes_48 : decode cX10_clashes 48 = .ok (.getfield 78, 3) := by decide +kernel
theorem dX10_clashes_51 : decode cX10_clashes 51 = .ok (.iload 4, 2) := by decide +kernel
theorem dX10_clashes_53 : decode cX10_clashes 53 = .ok (.iaload, 1) := by decide +kernel
theorem dX10_clashes_54 : decode cX10_clashes 54 = .ok (.iload_n 1, 1) := by decide +kernel
theorem dX10_clashes_55 : decode cX10_clashes 55 = .ok (.if_icmp .ne 33, 3) := by decide +kernel
theorem dX10_clashes_58 : decode cX10_clashes 58 = .ok (.aload_n 0, 1) := by decide +kernel
theorem dX10_clashes_59 : decode cX10_clashes 59 = .ok (.getfield 75, 3) := by decide +kernel
theorem dX10_clashes_62 : decode cX10_clashes 62 = .ok (.iload_n 3, 1) := by decide +kernel
theorem dX10_clashes_63 : decode cX10_clashes 63 = .ok (.iaload, 1) := by decide +kernel
theorem dX10_clashes_64 : decode cX10_clashes 64 = .ok (.aload_n 0, 1) := by decide +kernel
theorem dX10_clashes_65 : decode cX10_clashes 65 = .ok (.getfield 75, 3) := by decide +kernel
theorem dX10_clashes_68 : decode cX10_clashes 68 = .ok (.iload 4, 2) := by decide +kernel
theorem dX10_clashes_70 : decode cX10_clashes 70 = .ok (.iaload, 1) := by decide +kernel
theorem dX10_clashes_71 : decode cX10_clashes 71 = .ok (.if_icmp .eq 17, 3) := by decide +kernel
theorem dX10_clashes_74 : decode cX10_clashes 74 = .ok (.aload_n 0, 1) := by decide +kernel
theorem dX10_clashes_75 : decode cX10_clashes 75 = .ok (.iload_n 3, 1) := by decide +kernel
theorem dX10_clashes_76 : decode cX10_clashes 76 = .ok (.iload 4, 2) := by decide +kernel
theorem dX10_clashes_78 : decode cX10_clashes 78 = .ok (.invokevirtual 181, 3) := by decide +kernel
theorem dX10_clashes_81 : decode cX10_clashes 81 = .ok (.ifCond .eq 7, 3) := by decide +kernel
theorem dX10_clashes_84 : decode cX10_clashes 84 = .ok (.iconst 1, 1) := by decide +kernel
theorem dX10_clashes_85 : decode cX10_clashes 85 = .ok (.goto 4, 3) := by decide +kernel
theorem dX10_clashes_88 : decode cX10_clashes 88 = .ok (.iconst 0, 1) := by decide +kernel
theorem dX10_clashes_89 : decode cX10_clashes 89 = .ok (.iadd, 1) := by decide +kernel
theorem dX10_clashes_90 : decode cX10_clashes 90 = .ok (.istore_n 2, 1) := by decide +kernel
theorem dX10_clashes_91 : decode cX10_clashes 91 = .ok (.iinc 4 1, 3) := by decide +kernel
theorem dX10_clashes_94 : decode cX10_clashes 94 = .ok (.goto (-64), 3) := by decide +kernel
theorem dX10_clashes_97 : decode cX10_clashes 97 = .ok (.iinc 3 1, 3) := by decide +kernel
theorem dX10_clashes_100 : decode cX10_clashes 100 = .ok (.goto (-81), 3) := by decide +kernel
theorem dX10_clashes_103 : decode cX10_clashes 103 = .ok (.iload_n 2, 1) := by decide +kernel
theorem dX10_clashes_104 : decode cX10_clashes 104 = .ok (.ireturn, 1) := by decide +kernel
theorem dX10_dripOf_0 : decode cX10_dripOf 0 = .ok (.aload_n 0, 1) := by decide +kernel
theorem dX10_dripOf_1 : decode cX10_dripOf 1 = .ok (.getfield 29, 3) := by decide +kernel
theorem dX10_dripOf_4 : decode cX10_dripOf 4 = .ok (.iload_n 1, 1) := by decide +kernel
theorem dX10_dripOf_5 : decode cX10_dripOf 5 = .ok (.baload, 1) := by decide +kernel
theorem dX10_dripOf_6 : decode cX10_dripOf 6 = .ok (.ifCond .eq 7, 3) := by decide +kernel
theorem dX10_dripOf_9 : decode cX10_dripOf 9 = .ok (.iconst 0, 1) := by decide +kernel
theorem dX10_dripOf_10 : decode cX10_dripOf 10 = .ok (.goto 32, 3) := by decide +kernel
theorem dX10_dripOf_13 : decode cX10_dripOf 13 = .ok (.aload_n 0, 1) := by decide +kernel
theorem dX10_dripOf_14 : decode cX10_dripOf 14 = .ok (.getfield 23, 3) := by decide +kernel
theorem dX10_dripOf_17 : decode cX10_dripOf 17 = .ok (.iload_n 1, 1) := by decide +kernel
theorem dX10_dripOf_18 : decode cX10_dripOf 18 = .ok (.iaload, 1) := by decide +kernel
theorem dX10_dripOf_19 : decode cX10_dripOf 19 = .ok (.iconst 1, 1) := by decide +kernel
theorem dX10_dripOf_20 : decode cX10_dripOf 20 = .ok (.aload_n 0, 1) := by decide +kernel
theorem dX10_dripOf_21 : decode cX10_dripOf 21 = .ok (.getfield 149, 3) := by decide +kernel
theorem dX10_dripOf_24 : decode cX10_dripOf 24 = .ok (.sipush 168, 3) := by decide +kernel
theorem dX10_dripOf_27 : decode cX10_dripOf 27 = .ok (.idiv, 1) := by decide +kernel
theorem dX10_dripOf_28 : decode cX10_dripOf 28 = .ok (.aload_n 0, 1) := by decide +kernel
theorem dX10_dripOf_29 : decode cX10_dripOf 29 = .ok (.getfield 26, 3) := by decide +kernel
theorem dX10_dripOf_32 : decode cX10_dripOf 32 = .ok (.iload_n 1, 1) := by decide +kernel
theorem dX10_dripOf_33 : decode cX10_dripOf 33 = .ok (.iaload, 1) := by decide +kernel
theorem dX10_dripOf_34 : decode cX10_dripOf 34 = .ok (.isub, 1) := by decide +kernel
theorem dX10_dripOf_35 : decode cX10_dripOf 35 = .ok (.iconst 4, 1) := by decide +kernel
theorem dX10_dripOf_36 : decode cX10_dripOf 36 = .ok (.idiv, 1) := by decide +kernel
theorem dX10_dripOf_37 : decode cX10_dripOf 37 = .ok (.iadd, 1) := by decide +kernel
theorem dX10_dripOf_38 : decode cX10_dripOf 38 = .ok (.imul, 1) := by decide +kernel
theorem dX10_dripOf_39 : decode cX10_dripOf 39 = .ok (.bipush 10, 2) := by decide +kernel
theorem dX10_dripOf_41 : decode cX10_dripOf 41 = .ok (.idiv, 1) := by decide +kernel
theorem dX10_dripOf_42 : decode cX10_dripOf 42 = .ok (.ireturn, 1) := by decide +kernel
theorem dX10_take_0 : decode cX10_take 0 = .ok (.iload_n 1, 1) := by decide +kernel
theorem dX10_take_1 : decode cX10_take 1 = .ok (.aload_n 0, 1) := by decide +kernel
theorem dX10_take_2 : decode cX10_take 2 = .ok (.getfield 184, 3) := by decide +kernel
theorem dX10_take_5 : decode cX10_take 5 = .ok (.invokestatic 187, 3) := by decide +kernel
theorem dX10_take_8 : decode cX10_take 8 = .ok (.istore_n 2, 1) := by decide +kernel
theorem dX10_take_9 : decode cX10_take 9 = .ok (.aload_n 0, 1) := by decide +kernel
theorem dX10_take_10 : decode cX10_take 10 = .ok (.dup, 1) := by decide +kernel
theorem dX10_take_11 : decode cX10_take 11 = .ok (.getfield 184, 3) := by decide +kernel
theorem dX10_take_14 : decode cX10_take 14 = .ok (.iload_n 2, 1) := by decide +kernel
theorem dX10_take_15 : decode cX10_take 15 = .ok (.isub, 1) := by decide +kernel
theorem dX10_take_16 : decode cX10_take 16 = .ok (.putfield 184, 3) := by decide +kernel
theorem dX10_take_19 : decode cX10_take 19 = .ok (.iload_n 2, 1) := by decide +kernel
theorem dX10_take_20 : decode cX10_take 20 = .ok (.ireturn, 1) := by decide +kernel
theorem dX10_fillHouse_0 : decode cX10_fillHouse 0 = .ok (.aload_n 0, 1) := by decide +kernel
theorem dX10_fillHouse_1 : decode cX10_fillHouse 1 = .ok (.getfield 57, 3) := by decide +kernel
theorem dX10_fillHouse_4 : decode cX10_fillHouse 4 = .ok (.iload_n 1, 1) := by decide +kernel
theorem dX10_fillHouse_5 : decode cX10_fillHouse 5 = .ok (.baload, 1) := by decide +kernel
theorem dX10_fillHouse_6 : decode cX10_fillHouse 6 = .ok (.ifCond .eq 35, 3) := by decide +kernel
theorem dX10_fillHouse_9 : decode cX10_fillHouse 9 = .ok (.aload_n 0, 1) := by decide +kernel
theorem dX10_fillHouse_10 : decode cX10_fillHouse 10 = .ok (.getfield 63, 3) := by decide +kernel
theorem dX10_fillHouse_13 : decode cX10_fillHouse 13 = .ok (.iload_n 1, 1) := by decide +kernel
theorem dX10_fillHouse_14 : decode cX10_fillHouse 14 = .ok (.dup2, 1) := by decide +kernel
theorem dX10_fillHouse_15 : decode cX10_fillHouse 15 = .ok (.iaload, 1) := by decide +kernel
theorem dX10_fillHouse_16 : decode cX10_fillHouse 16 = .ok (.aload_n 0, 1) := by decide +kernel
theorem dX10_fillHouse_17 : decode cX10_fillHouse 17 = .ok (.bipush 30, 2) := by decide +kernel
theorem dX10_fillHouse_19 : decode cX10_fillHouse 19 = .ok (.aload_n 0, 1) := by decide +kernel
theorem dX10_fillHouse_20 : decode cX10_fillHouse 20 = .ok (.getfield 48, 3) := by decide +kernel
theorem dX10_fillHouse_23 : decode cX10_fillHouse 23 = .ok (.iload_n 1, 1) := by decide +kernel
theorem dX10_fillHouse_24 : decode cX10_fillHouse 24 = .ok (.iaload, 1) := by decide +kernel
theorem dX10_fillHouse_25 : decode cX10_fillHouse 25 = .ok (.aload_n 0, 1) := by decide +kernel
theorem dX10_fillHouse_26 : decode cX10_fillHouse 26 = .ok (.getfield 63, 3) := by decide +kernel
theorem dX10_fillHouse_29 : decode cX10_fillHouse 29 = .ok (.iload_n 1, 1) := by decide +kernel
theorem dX10_fillHouse_30 : decode cX10_fillHouse 30 = .ok (.iaload, 1) := by decide +kernel
theorem dX10_fillHouse_31 : decode cX10_fillHouse 31 = .ok (.isub, 1) := by decide +kernel
theorem dX10_fillHouse_32 : decode cX10_fillHouse 32 = .ok (.invokestatic 187, 3) := by decide +kernel
theorem dX10_fillHouse_35 : decode cX10_fillHouse 35 = .ok (.invokevirtual 190, 3) := by decide +kernel
theorem dX10_fillHouse_38 : decode cX10_fillHouse 38 = .ok (.iadd, 1) := by decide +kernel
theorem dX10_fillHouse_39 : decode cX10_fillHouse 39 = .ok (.iastore, 1) := by decide +kernel
theorem dX10_fillHouse_40 : decode cX10_fillHouse 40 = .ok (.return_, 1) := by decide +kernel
theorem dX10_fillHouse_41 : decode cX10_fillHouse 41 = .ok (.aload_n 0, 1) := by decide +kernel
theorem dX10_fillHouse_42 : decode cX10_fillHouse 42 = .ok (.getfield 63, 3) := by decide +kernel
theorem dX10_fillHouse_45 : decode cX10_fillHouse 45 = .ok (.iload_n 1, 1) := by decide +kernel
theorem dX10_fillHouse_46 : decode cX10_fillHouse 46 = .ok (.dup2, 1) := by decide +kernel
theorem dX10_fillHouse_47 : decode cX10_fillHouse 47 = .ok (.iaload, 1) := by decide +kernel
theorem dX10_fillHouse_48 : decode cX10_fillHouse 48 = .ok (.aload_n 0, 1) := by decide +kernel
theorem dX10_fillHouse_49 : decode cX10_fillHouse 49 = .ok (.bipush 30, 2) := by decide +kernel
theorem dX10_fillHouse_51 : decode cX10_fillHouse 51 = .ok (.invokevirtual 190, 3) := by decide +kernel
theorem dX10_fillHouse_54 : decode cX10_fillHouse 54 = .ok (.iadd, 1) := by decide +kernel
theorem dX10_fillHouse_55 : decode cX10_fillHouse 55 = .ok (.iastore, 1) := by decide +kernel
theorem dX10_fillHouse_56 : decode cX10_fillHouse 56 = .ok (.aload_n 0, 1) := by decide +kernel
theorem dX10_fillHouse_57 : decode cX10_fillHouse 57 = .ok (.getfield 63, 3) := by decide +kernel
theorem dX10_fillHouse_60 : decode cX10_fillHouse 60 = .ok (.iload_n 1, 1) := by decide +kernel
theorem dX10_fillHouse_61 : decode cX10_fillHouse 61 = .ok (.iaload, 1) := by decide +kernel
theorem dX10_fillHouse_62 : decode cX10_fillHouse 62 = .ok (.aload_n 0, 1) := by decide +kernel
theorem dX10_fillHouse_63 : decode cX10_fillHouse 63 = .ok (.getfield 48, 3) := by decide +kernel
theorem dX10_fillHouse_66 : decode cX10_fillHouse 66 = .ok (.iload_n 1, 1) := by decide +kernel
theorem dX10_fillHouse_67 : decode cX10_fillHouse 67 = .ok (.iaload, 1) := by decide +kernel
theorem dX10_fillHouse_68 : decode cX10_fillHouse 68 = .ok (.if_icmp .le 37, 3) := by decide +kernel
theorem dX10_fillHouse_71 : decode cX10_fillHouse 71 = .ok (.aload_n 0, 1) := by decide +kernel
theorem dX10_fillHouse_72 : decode cX10_fillHouse 72 = .ok (.dup, 1) := by decide +kernel
theorem dX10_fillHouse_73 : decode cX10_fillHouse 73 = .ok (.getfield 193, 3) := by decide +kernel
theorem dX10_fillHouse_76 : decode cX10_fillHouse 76 = .ok (.aload_n 0, 1) := by decide +kernel
theorem dX10_fillHouse_77 : decode cX10_fillHouse 77 = .ok (.getfield 63, 3) := by decide +kernel
theorem dX10_fillHouse_80 : decode cX10_fillHouse 80 = .ok (.iload_n 1, 1) := by decide +kernel
theorem dX10_fillHouse_81 : decode cX10_fillHouse 81 = .ok (.iaload, 1) := by decide +kernel
theorem dX10_fillHouse_82 : decode cX10_fillHouse 82 = .ok (.aload_n 0, 1) := by decide +kernel
theorem dX10_fillHouse_83 : decode cX10_fillHouse 83 = .ok (.getfield 48, 3) := by decide +kernel
theorem dX10_fillHouse_86 : decode cX10_fillHouse 86 = .ok (.iload_n 1, 1) := by decide +kernel
theorem dX10_fillHouse_87 : decode cX10_fillHouse 87 = .ok (.iaload, 1) := by decide +kernel
theorem dX10_fillHouse_88 : decode cX10_fillHouse 88 = .ok (.isub, 1) := by decide +kernel
theorem dX10_fillHouse_89 : decode cX10_fillHouse 89 = .ok (.iadd, 1) := by decide +kernel
theorem dX10_fillHouse_90 : decode cX10_fillHouse 90 = .ok (.putfield 193, 3) := by decide +kernel
theorem dX10_fillHouse_93 : decode cX10_fillHouse 93 = .ok (.aload_n 0, 1) := by decide +kernel
theorem dX10_fillHouse_94 : decode cX10_fillHouse 94 = .ok (.getfield 63, 3) := by decide +kernel
theorem dX10_fillHouse_97 : decode cX10_fillHouse 97 = .ok (.iload_n 1, 1) := by decide +kernel
theorem dX10_fillHouse_98 : decode cX10_fillHouse 98 = .ok (.aload_n 0, 1) := by decide +kernel
theorem dX10_fillHouse_99 : decode cX10_fillHouse 99 = .ok (.getfield 48, 3) := by decide +kernel
theorem dX10_fillHouse_102 : decode cX10_fillHouse 102 = .ok (.iload_n 1, 1) := by decide +kernel
theorem dX10_fillHouse_103 : decode cX10_fillHouse 103 = .ok (.iaload, 1) := by decide +kernel
theorem dX10_fillHouse_104 : decode cX10_fillHouse 104 = .ok (.iastore, 1) := by decide +kernel
theorem dX10_fillHouse_105 : decode cX10_fillHouse 105 = .ok (.return_, 1) := by decide +kernel
theorem dX10_serve_0 : decode cX10_serve 0 = .ok (.aload_n 0, 1) := by decide +kernel
theorem dX10_serve_1 : decode cX10_serve 1 = .ok (.getfield 42, 3) := by decide +kernel
theorem dX10_serve_4 : decode cX10_serve 4 = .ok (.iload_n 1, 1) := by decide +kernel
theorem dX10_serve_5 : decode cX10_serve 5 = .ok (.baload, 1) := by decide +kernel
theorem dX10_serve_6 : decode cX10_serve 6 = .ok (.ifCond .eq 18, 3) := by decide +kernel
theorem dX10_serve_9 : decode cX10_serve 9 = .ok (.aload_n 0, 1) := by decide +kernel
theorem dX10_serve_10 : decode cX10_serve 10 = .ok (.dup, 1) := by decide +kernel
theorem dX10_serve_11 : decode cX10_serve 11 = .ok (.getfield 196, 3) := by decide +kernel
theorem dX10_serve_14 : decode cX10_serve 14 = .ok (.aload_n 0, 1) := by decide +kernel
theorem dX10_serve_15 : decode cX10_serve 15 = .ok (.bipush 60, 2) := by decide +kernel
theorem dX10_serve_17 : decode cX10_serve 17 = .ok (.invokevirtual 190, 3) := by decide +kernel
theorem dX10_serve_20 : decode cX10_serve 20 = .ok (.iadd, 1) := by decide +kernel
theorem dX10_serve_21 : decode cX10_serve 21 = .ok (.putfield 196, 3) := by decide +kernel
theorem dX10_serve_24 : decode cX10_serve 24 = .ok (.aload_n 0, 1) := by decide +kernel
theorem dX10_serve_25 : decode cX10_serve 25 = .ok (.getfield 33, 3) := by decide +kernel
theorem dX10_serve_28 : decode cX10_serve 28 = .ok (.iload_n 1, 1) := by decide +kernel
theorem dX10_serve_29 : decode cX10_serve 29 = .ok (.iaload, 1) := by decide +kernel
theorem dX10_serve_30 : decode cX10_serve 30 = .ok (.iconst 2, 1) := by decide +kernel
theorem dX10_serve_31 : decode cX10_serve 31 = .ok (.if_icmp .ne 46, 3) := by decide +kernel
theorem dX10_serve_34 : decode cX10_serve 34 = .ok (.aload_n 0, 1) := by decide +kernel
theorem dX10_serve_35 : decode cX10_serve 35 = .ok (.bipush 40, 2) := by decide +kernel
theorem dX10_serve_37 : decode cX10_serve 37 = .ok (.aload_n 0, 1) := by decide +kernel
theorem dX10_serve_38 : decode cX10_serve 38 = .ok (.getfield 36, 3) := by decide +kernel
theorem dX10_serve_41 : decode cX10_serve 41 = .ok (.iload_n 1, 1) := by decide +kernel
theorem dX10_serve_42 : decode cX10_serve 42 = .ok (.iaload, 1) := by decide +kernel
theorem dX10_serve_43 : decode cX10_serve 43 = .ok (.aload_n 0, 1) := by decide +kernel
theorem dX10_serve_44 : decode cX10_serve 44 = .ok (.getfield 39, 3) := by decide +kernel
theorem dX10_serve_47 : decode cX10_serve 47 = .ok (.iload_n 1, 1) := by decide +kernel
theorem dX10_serve_48 : decode cX10_serve 48 = .ok (.iaload, 1) := by decide +kernel
theorem dX10_serve_49 : decode cX10_serve 49 = .ok (.isub, 1) := by decide +kernel
theorem dX10_serve_50 : decode cX10_serve 50 = .ok (.invokestatic 187, 3) := by decide +kernel
theorem dX10_serve_53 : decode cX10_serve 53 = .ok (.invokevirtual 190, 3) := by decide +kernel
theorem dX10_serve_56 : decode cX10_serve 56 = .ok (.istore_n 2, 1) := by decide +kernel
theorem dX10_serve_57 : decode cX10_serve 57 = .ok (.aload_n 0, 1) := by decide +kernel
theorem dX10_serve_58 : decode cX10_serve 58 = .ok (.getfield 39, 3) := by decide +kernel
theorem dX10_serve_61 : decode cX10_serve 61 = .ok (.iload_n 1, 1) := by decide +kernel
theorem dX10_serve_62 : decode cX10_serve 62 = .ok (.dup2, 1) := by decide +kernel
theorem dX10_serve_63 : decode cX10_serve 63 = .ok (.iaload, 1) := by decide +kernel
theorem dX10_serve_64 : decode cX10_serve 64 = .ok (.iload_n 2, 1) := by decide +kernel
theorem dX10_serve_65 : decode cX10_serve 65 = .ok (.iadd, 1) := by decide +kernel
theorem dX10_serve_66 : decode cX10_serve 66 = .ok (.iastore, 1) := by decide +kernel
theorem dX10_serve_67 : decode cX10_serve 67 = .ok (.aload_n 0, 1) := by decide +kernel
theorem dX10_serve_68 : decode cX10_serve 68 = .ok (.dup, 1) := by decide +kernel
theorem dX10_serve_69 : decode cX10_serve 69 = .ok (.getfield 199, 3) := by decide +kernel
theorem dX10_serve_72 : decode cX10_serve 72 = .ok (.iload_n 2, 1) := by decide +kernel
theorem dX10_serve_73 : decode cX10_serve 73 = .ok (.iadd, 1) := by decide +kernel
theorem dX10_serve_74 : decode cX10_serve 74 = .ok (.putfield 199, 3) := by decide +kernel
theorem dX10_serve_77 : decode cX10_serve 77 = .ok (.iconst 0, 1) := by decide +kernel
theorem dX10_serve_78 : decode cX10_serve 78 = .ok (.istore_n 2, 1) := by decide +kernel
theorem dX10_serve_79 : decode cX10_serve 79 = .ok (.iload_n 2, 1) := by decide +kernel
theorem dX10_serve_80 : decode cX10_serve 80 = .ok (.bipush 10, 2) := by decide +kernel
theorem dX10_serve_82 : decode cX10_serve 82 = .ok (.if_icmp .ge 50, 3) := by decide +kernel
theorem dX10_serve_85 : decode cX10_serve 85 = .ok (.iconst 0, 1) := by decide +kernel
theorem dX10_serve_86 : decode cX10_serve 86 = .ok (.istore_n 3, 1) := by decide +kernel
theorem dX10_serve_87 : decode cX10_serve 87 = .ok (.iload_n 3, 1) := by decide +kernel
theorem dX10_serve_88 : decode cX10_serve 88 = .ok (.aload_n 0, 1) := by decide +kernel
theorem dX10_serve_89 : decode cX10_serve 89 = .ok (.getfield 142, 3) := by decide +kernel
theorem dX10_serve_92 : decode cX10_serve 92 = .ok (.if_icmp .ge 34, 3) := by decide +kernel
theorem dX10_serve_95 : decode cX10_serve 95 = .ok (.aload_n 0, 1) := by decide +kernel
theorem dX10_serve_96 : decode cX10_serve 96 = .ok (.getfield 45, 3) := by decide +kernel
theorem dX10_serve_99 : decode cX10_serve 99 = .ok (.iload_n 3, 1) := by decide +kernel
theorem dX10_serve_100 : decode cX10_serve 100 = .ok (.iaload, 1) := by decide +kernel
theorem dX10_serve_101 : decode cX10_serve 101 = .ok (.iload_n 1, 1) := by decide +kernel
theorem dX10_serve_102 : decode cX10_serve 102 = .ok (.if_icmp .ne 18, 3) := by decide +kernel
theorem dX10_serve_105 : decode cX10_serve 105 = .ok (.aload_n 0, 1) := by decide +kernel
theorem dX10_serve_106 : decode cX10_serve 106 = .ok (.getfield 51, 3) := by decide +kernel
theorem dX10_serve_109 : decode cX10_serve 109 = .ok (.iload_n 3, 1) := by decide +kernel
theorem dX10_serve_110 : decode cX10_serve 110 = .ok (.iaload, 1) := by decide +kernel
theorem dX10_serve_111 : decode cX10_serve 111 = .ok (.iload_n 2, 1) := by decide +kernel
theorem dX10_serve_112 : decode cX10_serve 112 = .ok (.if_icmp .ne 8, 3) := by decide +kernel
theorem dX10_serve_115 : decode cX10_serve 115 = .ok (.aload_n 0, 1) := by decide +kernel
theorem dX10_serve_116 : decode cX10_serve 116 = .ok (.iload_n 3, 1) := by decide +kernel
theorem dX10_serve_117 : decode cX10_serve 117 = .ok (.invokevirtual 202, 3) := by decide +kernel
theorem dX10_serve_120 : decode cX10_serve 120 = .ok (.iinc 3 1, 3) := by decide +kernel
theorem dX10_serve_123 : decode cX10_serve 123 = .ok (.goto (-36), 3) := by decide +kernel
theorem dX10_serve_126 : decode cX10_serve 126 = .ok (.iinc 2 1, 3) := by decide +kernel
theorem dX10_serve_129 : decode cX10_serve 129 = .ok (.goto (-50), 3) := by decide +kernel
theorem dX10_serve_132 : decode cX10_serve 132 = .ok (.return_, 1) := by decide +kernel
theorem dX10_pass_0 : decode cX10_pass 0 = .ok (.aload_n 0, 1) := by decide +kernel
theorem dX10_pass_1 : decode cX10_pass 1 = .ok (.getfield 149, 3) := by decide +kernel
theorem dX10_pass_4 : decode cX10_pass 4 = .ok (.sipush 168, 3) := by decide +kernel
theorem dX10_pass_7 : decode cX10_pass 7 = .ok (.irem, 1) := by decide +kernel
theorem dX10_pass_8 : decode cX10_pass 8 = .ok (.istore_n 1, 1) := by decide +kernel
theorem dX10_pass_9 : decode cX10_pass 9 = .ok (.iconst 0, 1) := by decide +kernel
theorem dX10_pass_10 : decode cX10_pass 10 = .ok (.istore_n 2, 1) := by decide +kernel
theorem dX10_pass_11 : decode cX10_pass 11 = .ok (.iconst 0, 1) := by decide +kernel
theorem dX10_pass_12 : decode cX10_pass 12 = .ok (.istore_n 3, 1) := by decide +kernel
theorem dX10_pass_13 : decode cX10_pass 13 = .ok (.iload_n 3, 1) := by decide +kernel
theorem dX10_pass_14 : decode cX10_pass 14 = .ok (.aload_n 0, 1) := by decide +kernel
theorem dX10_pass_15 : decode cX10_pass 15 = .ok (.getfield 135, 3) := by decide +kernel
theorem dX10_pass_18 : decode cX10_pass 18 = .ok (.if_icmp .ge 28, 3) := by decide +kernel
theorem dX10_pass_21 : decode cX10_pass 21 = .ok (.iload_n 2, 1) := by decide +kernel
theorem dX10_pass_22 : decode cX10_pass 22 = .ok (.ifCond .ne 12, 3) := by decide +kernel
theorem dX10_pass_25 : decode cX10_pass 25 = .ok (.aload_n 0, 1) := by decide +kernel
theorem dX10_pass_26 : decode cX10_pass 26 = .ok (.iload_n 3, 1) := by decide +kernel
theorem dX10_pass_27 : decode cX10_pass 27 = .ok (.iload_n 1, 1) := by decide +kernel
theorem dX10_pass_28 : decode cX10_pass 28 = .ok (.invokevirtual 171, 3) := by decide +kernel
theorem dX10_pass_31 : decode cX10_pass 31 = .ok (.ifCond .eq 7, 3) := by decide +kernel
theorem dX10_pass_34 : decode cX10_pass 34 = .ok (.iconst 1, 1) := by decide +kernel
theorem dX10_pass_35 : decode cX10_pass 35 = .ok (.goto 4, 3) := by decide +kernel
theorem dX10_pass_38 : decode cX10_pass 38 = .ok (.iconst 0, 1) := by decide +kernel
theorem dX10_pass_39 : decode cX10_pass 39 = .ok (.istore_n 2, 1) := by decide +kernel
theorem dX10_pass_40 : decode cX10_pass 40 = .ok (.iinc 3 1, 3) := by decide +kernel
theorem dX10_pass_43 : decode cX10_pass 43 = .ok (.goto (-30), 3) := by decide +kernel
theorem dX10_pass_46 : decode cX10_pass 46 = .ok (.aload_n 0, 1) := by decide +kernel
theorem dX10_pass_47 : decode cX10_pass 47 = .ok (.iconst 0, 1) := by decide +kernel
theorem dX10_pass_48 : decode cX10_pass 48 = .ok (.putfield 184, 3) := by decide +kernel
theorem dX10_pass_51 : decode cX10_pass 51 = .ok (.iload_n 2, 1) := by decide +kernel
theorem dX10_pass_52 : decode cX10_pass 52 = .ok (.ifCond .eq 45, 3) := by decide +kernel
theorem dX10_pass_55 : decode cX10_pass 55 = .ok (.aload_n 0, 1) := by decide +kernel
theorem dX10_pass_56 : decode cX10_pass 56 = .ok (.getfield 153, 3) := by decide +kernel
theorem dX10_pass_59 : decode cX10_pass 59 = .ok (.aload_n 0, 1) := by decide +kernel
theorem dX10_pass_60 : decode cX10_pass 60 = .ok (.getfield 13, 3) := by decide +kernel
theorem dX10_pass_63 : decode cX10_pass 63 = .ok (.if_icmp .lt 34, 3) := by decide +kernel
theorem dX10_pass_66 : decode cX10_pass 66 = .ok (.aload_n 0, 1) := by decide +kernel
theorem dX10_pass_67 : decode cX10_pass 67 = .ok (.dup, 1) := by decide +kernel
theorem dX10_pass_68 : decode cX10_pass 68 = .ok (.getfield 153, 3) := by decide +kernel
theorem dX10_pass_71 : decode cX10_pass 71 = .ok (.aload_n 0, 1) := by decide +kernel
theorem dX10_pass_72 : decode cX10_pass 72 = .ok (.getfield 13, 3) := by decide +kernel
theorem dX10_pass_75 : decode cX10_pass 75 = .ok (.isub, 1) := by decide +kernel
theorem dX10_pass_76 : decode cX10_pass 76 = .ok (.putfield 153, 3) := by decide +kernel
theorem dX10_pass_79 : decode cX10_pass 79 = .ok (.aload_n 0, 1) := by decide +kernel
theorem dX10_pass_80 : decode cX10_pass 80 = .ok (.aload_n 0, 1) := by decide +kernel
theorem dX10_pass_81 : decode cX10_pass 81 = .ok (.getfield 7, 3) := by decide +kernel
theorem dX10_pass_84 : decode cX10_pass 84 = .ok (.putfield 184, 3) := by decide +kernel
theorem dX10_pass_87 : decode cX10_pass 87 = .ok (.aload_n 0, 1) := by decide +kernel
theorem dX10_pass_88 : decode cX10_pass 88 = .ok (.dup, 1) := by decide +kernel
theorem dX10_pass_89 : decode cX10_pass 89 = .ok (.getfield 206, 3) := by decide +kernel
theorem dX10_pass_92 : decode cX10_pass 92 = .ok (.iconst 1, 1) := by decide +kernel
theorem dX10_pass_93 : decode cX10_pass 93 = .ok (.iadd, 1) := by decide +kernel
theorem dX10_pass_94 : decode cX10_pass 94 = .ok (.putfield 206, 3) := by decide +kernel
theorem dX10_pass_97 : decode cX10_pass 97 = .ok (.iconst 0, 1) := by decide +kernel
theorem dX10_pass_98 : decode cX10_pass 98 = .ok (.istore_n 3, 1) := by decide +kernel
theorem dX10_pass_99 : decode cX10_pass 99 = .ok (.iload_n 3, 1) := by decide +kernel
theorem dX10_pass_100 : decode cX10_pass 100 = .ok (.aload_n 0, 1) := by decide +kernel
theorem dX10_pass_101 : decode cX10_pass 101 = .ok (.getfield 135, 3) := by decide +kernel
theorem dX10_pass_104 : decode cX10_pass 104 = .ok (.if_icmp .ge 40, 3) := by decide +kernel
theorem dX10_pass_107 : decode cX10_pass 107 = .ok (.aload_n 0, 1) := by decide +kernel
theorem dX10_pass_108 : decode cX10_pass 108 = .ok (.dup, 1) := by decide +kernel
theorem dX10_pass_109 : decode cX10_pass 109 = .ok (.getfield 209, 3) := by decide +kernel
theorem dX10_pass_112 : decode cX10_pass 112 = .ok (.aload_n 0, 1) := by decide +kernel
theorem dX10_pass_113 : decode cX10_pass 113 = .ok (.iload_n 3, 1) := by decide +kernel
theorem dX10_pass_114 : decode cX10_pass 114 = .ok (.iload_n 1, 1) := by decide +kernel
theorem dX10_pass_115 : decode cX10_pass 115 = .ok (.invokevirtual 171, 3) := by decide +kernel
theorem dX10_pass_118 : decode cX10_pass 118 = .ok (.ifCond .eq 15, 3) := by decide +kernel
theorem dX10_pass_121 : decode cX10_pass 121 = .ok (.aload_n 0, 1) := by decide +kernel
theorem dX10_pass_122 : decode cX10_pass 122 = .ok (.aload_n 0, 1) := by decide +kernel
theorem dX10_pass_123 : decode cX10_pass 123 = .ok (.iload_n 3, 1) := by decide +kernel
theorem dX10_pass_124 : decode cX10_pass 124 = .ok (.invokevirtual 212, 3) := by decide +kernel
theorem dX10_pass_127 : decode cX10_pass 127 = .ok (.invokevirtual 190, 3) := by decide +kernel
theorem dX10_pass_130 : decode cX10_pass 130 = .ok (.goto 4, 3) := by decide +kernel
theorem dX10_pass_133 : decode cX10_pass 133 = .ok (.iconst 0, 1) := by decide +kernel
theorem dX10_pass_134 : decode cX10_pass 134 = .ok (.iadd, 1) := by decide +kernel
theorem dX10_pass_135 : decode cX10_pass 135 = .ok (.putfield 209, 3) := by decide +kernel
theorem dX10_pass_138 : decode cX10_pass 138 = .ok (.iinc 3 1, 3) := by decide +kernel
theorem dX10_pass_141 : decode cX10_pass 141 = .ok (.goto (-42), 3) := by decide +kernel
theorem dX10_pass_144 : decode cX10_pass 144 = .ok (.iconst 0, 1) := by decide +kernel
theorem dX10_pass_145 : decode cX10_pass 145 = .ok (.istore_n 3, 1) := by decide +kernel
theorem dX10_pass_146 : decode cX10_pass 146 = .ok (.iload_n 3, 1) := by decide +kernel
theorem dX10_pass_147 : decode cX10_pass 147 = .ok (.aload_n 0, 1) := by decide +kernel
theorem dX10_pass_148 : decode cX10_pass 148 = .ok (.getfield 135, 3) := by decide +kernel
theorem dX10_pass_151 : decode cX10_pass 151 = .ok (.if_icmp .ge 23, 3) := by decide +kernel
theorem dX10_pass_154 : decode cX10_pass 154 = .ok (.aload_n 0, 1) := by decide +kernel
theorem dX10_pass_155 : decode cX10_pass 155 = .ok (.iload_n 3, 1) := by decide +kernel
theorem dX10_pass_156 : decode cX10_pass 156 = .ok (.iload_n 1, 1) := by decide +kernel
theorem dX10_pass_157 : decode cX10_pass 157 = .ok (.invokevirtual 171, 3) := by decide +kernel
theorem dX10_pass_160 : decode cX10_pass 160 = .ok (.ifCond .eq 8, 3) := by decide +kernel
theorem dX10_pass_163 : decode cX10_pass 163 = .ok (.aload_n 0, 1) := by decide +kernel
theorem dX10_pass_164 : decode cX10_pass 164 = .ok (.iload_n 3, 1) := by decide +kernel
theorem dX10_pass_165 : decode cX10_pass 165 = .ok (.invokevirtual 215, 3) := by decide +kernel
theorem dX10_pass_168 : decode cX10_pass 168 = .ok (.iinc 3 1, 3) := by decide +kernel
theorem dX10_pass_171 : decode cX10_pass 171 = .ok (.goto (-25), 3) := by decide +kernel
theorem dX10_pass_174 : decode cX10_pass 174 = .ok (.aload_n 0, 1) := by decide +kernel
theorem dX10_pass_175 : decode cX10_pass 175 = .ok (.dup, 1) := by decide +kernel
theorem dX10_pass_176 : decode cX10_pass 176 = .ok (.getfield 218, 3) := by decide +kernel
theorem dX10_pass_179 : decode cX10_pass 179 = .ok (.aload_n 0, 1) := by decide +kernel
theorem dX10_pass_180 : decode cX10_pass 180 = .ok (.getfield 184, 3) := by decide +kernel
theorem dX10_pass_183 : decode cX10_pass 183 = .ok (.iadd, 1) := by decide +kernel
theorem dX10_pass_184 : decode cX10_pass 184 = .ok (.putfield 218, 3) := by decide +kernel
theorem dX10_pass_187 : decode cX10_pass 187 = .ok (.iconst 0, 1) := by decide +kernel
theorem dX10_pass_188 : decode cX10_pass 188 = .ok (.istore_n 3, 1) := by decide +kernel
theorem dX10_pass_189 : decode cX10_pass 189 = .ok (.iload_n 3, 1) := by decide +kernel
theorem dX10_pass_190 : decode cX10_pass 190 = .ok (.aload_n 0, 1) := by decide +kernel
theorem dX10_pass_191 : decode cX10_pass 191 = .ok (.getfield 142, 3) := by decide +kernel
theorem dX10_pass_194 : decode cX10_pass 194 = .ok (.if_icmp .ge 71, 3) := by decide +kernel
theorem dX10_pass_197 : decode cX10_pass 197 = .ok (.aload_n 0, 1) := by decide +kernel
theorem dX10_pass_198 : decode cX10_pass 198 = .ok (.iload_n 3, 1) := by decide +kernel
theorem dX10_pass_199 : decode cX10_pass 199 = .ok (.invokevirtual 221, 3) := by decide +kernel
theorem dX10_pass_202 : decode cX10_pass 202 = .ok (.istore 4, 2) := by decide +kernel
theorem dX10_pass_204 : decode cX10_pass 204 = .ok (.aload_n 0, 1) := by decide +kernel
theorem dX10_pass_205 : decode cX10_pass 205 = .ok (.getfield 66, 3) := by decide +kernel
theorem dX10_pass_208 : decode cX10_pass 208 = .ok (.iload_n 3, 1) := by decide +kernel
theorem dX10_pass_209 : decode cX10_pass 209 = .ok (.dup2, 1) := by decide +kernel
theorem dX10_pass_210 : decode cX10_pass 210 = .ok (.iaload, 1) := by decide +kernel
theorem dX10_pass_211 : decode cX10_pass 211 = .ok (.aload_n 0, 1) := by decide +kernel
theorem dX10_pass_212 : decode cX10_pass 212 = .ok (.getfield 63, 3) := by decide +kernel
theorem dX10_pass_215 : decode cX10_pass 215 = .ok (.iload_n 3, 1) := by decide +kernel
theorem dX10_pass_216 : decode cX10_pass 216 = .ok (.iaload, 1) := by decide +kernel
theorem dX10_pass_217 : decode cX10_pass 217 = .ok (.iload 4, 2) := by decide +kernel
theorem dX10_pass_219 : decode cX10_pass 219 = .ok (.if_icmp .ge 7, 3) := by decide +kernel
theorem dX10_pass_222 : decode cX10_pass 222 = .ok (.iconst 1, 1) := by decide +kernel
theorem dX10_pass_223 : decode cX10_pass 223 = .ok (.goto 4, 3) := by decide +kernel
theorem dX10_pass_226 : decode cX10_pass 226 = .ok (.iconst 0, 1) := by decide +kernel
theorem dX10_pass_227 : decode cX10_pass 227 = .ok (.iadd, 1) := by decide +kernel
theorem dX10_pass_228 : decode cX10_pass 228 = .ok (.iastore, 1) := by decide +kernel
theorem dX10_pass_229 : decode cX10_pass 229 = .ok (.aload_n 0, 1) := by decide +kernel
theorem dX10_pass_230 : decode cX10_pass 230 = .ok (.getfield 63, 3) := by decide +kernel
theorem dX10_pass_233 : decode cX10_pass 233 = .ok (.iload_n 3, 1) := by decide +kernel
theorem dX10_pass_234 : decode cX10_pass 234 = .ok (.aload_n 0, 1) := by decide +kernel
theorem dX10_pass_235 : decode cX10_pass 235 = .ok (.getfield 63, 3) := by decide +kernel
theorem dX10_pass_238 : decode cX10_pass 238 = .ok (.iload_n 3, 1) := by decide +kernel
theorem dX10_pass_239 : decode cX10_pass 239 = .ok (.iaload, 1) := by decide +kernel
theorem dX10_pass_240 : decode cX10_pass 240 = .ok (.iload 4, 2) := by decide +kernel
theorem dX10_pass_242 : decode cX10_pass 242 = .ok (.if_icmp .ge 7, 3) := by decide +kernel
theorem dX10_pass_245 : decode cX10_pass 245 = .ok (.iconst 0, 1) := by decide +kernel
theorem dX10_pass_246 : decode cX10_pass 246 = .ok (.goto 12, 3) := by decide +kernel
theorem dX10_pass_249 : decode cX10_pass 249 = .ok (.aload_n 0, 1) := by decide +kernel
theorem dX10_pass_250 : decode cX10_pass 250 = .ok (.getfield 63, 3) := by decide +kernel
theorem dX10_pass_253 : decode cX10_pass 253 = .ok (.iload_n 3, 1) := by decide +kernel
theorem dX10_pass_254 : decode cX10_pass 254 = .ok (.iaload, 1) := by decide +kernel
theorem dX10_pass_255 : decode cX10_pass 255 = .ok (.iload 4, 2) := by decide +kernel
theorem dX10_pass_257 : decode cX10_pass 257 = .ok (.isub, 1) := by decide +kernel
theorem dX10_pass_258 : decode cX10_pass 258 = .ok (.iastore, 1) := by decide +kernel
theorem dX10_pass_259 : decode cX10_pass 259 = .ok (.iinc 3 1, 3) := by decide +kernel
theorem dX10_pass_262 : decode cX10_pass 262 = .ok (.goto (-73), 3) := by decide +kernel
theorem dX10_pass_265 : decode cX10_pass 265 = .ok (.aload_n 0, 1) := by decide +kernel
theorem dX10_pass_266 : decode cX10_pass 266 = .ok (.dup, 1) := by decide +kernel
theorem dX10_pass_267 : decode cX10_pass 267 = .ok (.getfield 149, 3) := by decide +kernel
theorem dX10_pass_270 : decode cX10_pass 270 = .ok (.iconst 1, 1) := by decide +kernel
theorem dX10_pass_271 : decode cX10_pass 271 = .ok (.iadd, 1) := by decide +kernel
theorem dX10_pass_272 : decode cX10_pass 272 = .ok (.putfield 149, 3) := by decide +kernel
theorem dX10_pass_275 : decode cX10_pass 275 = .ok (.return_, 1) := by decide +kernel
theorem dX10_hours_0 : decode cX10_hours 0 = .ok (.iload_n 1, 1) := by decide +kernel
theorem dX10_hours_1 : decode cX10_hours 1 = .ok (.iconst 1, 1) := by decide +kernel
theorem dX10_hours_2 : decode cX10_hours 2 = .ok (.if_icmp .ge 10, 3) := by decide +kernel
theorem dX10_hours_5 : decode cX10_hours 5 = .ok (.aload_n 0, 1) := by decide +kernel
theorem dX10_hours_6 : decode cX10_hours 6 = .ok (.bipush (-4), 2) := by decide +kernel
theorem dX10_hours_8 : decode cX10_hours 8 = .ok (.invokevirtual 145, 3) := by decide +kernel
theorem dX10_hours_11 : decode cX10_hours 11 = .ok (.ireturn, 1) := by decide +kernel
theorem dX10_hours_12 : decode cX10_hours 12 = .ok (.iload_n 1, 1) := by decide +kernel
theorem dX10_hours_13 : decode cX10_hours 13 = .ok (.sipush 5000, 3) := by decide +kernel
theorem dX10_hours_16 : decode cX10_hours 16 = .ok (.aload_n 0, 1) := by decide +kernel
theorem dX10_hours_17 : decode cX10_hours 17 = .ok (.getfield 149, 3) := by decide +kernel
theorem dX10_hours_20 : decode cX10_hours 20 = .ok (.isub, 1) := by decide +kernel
theorem dX10_hours_21 : decode cX10_hours 21 = .ok (.if_icmp .le 10, 3) := by decide +kernel
theorem dX10_hours_24 : decode cX10_hours 24 = .ok (.aload_n 0, 1) := by decide +kernel
theorem dX10_hours_25 : decode cX10_hours 25 = .ok (.bipush (-6), 2) := by decide +kernel
theorem dX10_hours_27 : decode cX10_hours 27 = .ok (.invokevirtual 145, 3) := by decide +kernel
theorem dX10_hours_30 : decode cX10_hours 30 = .ok (.ireturn, 1) := by decide +kernel
theorem dX10_hours_31 : decode cX10_hours 31 = .ok (.iconst 0, 1) := by decide +kernel
theorem dX10_hours_32 : decode cX10_hours 32 = .ok (.istore_n 2, 1) := by decide +kernel
theorem dX10_hours_33 : decode cX10_hours 33 = .ok (.iload_n 2, 1) := by decide +kernel
theorem dX10_hours_34 : decode cX10_hours 34 = .ok (.iload_n 1, 1) := by decide +kernel
theorem dX10_hours_35 : decode cX10_hours 35 = .ok (.if_icmp .ge 13, 3) := by decide +kernel
theorem dX10_hours_38 : decode cX10_hours 38 = .ok (.aload_n 0, 1) := by decide +kernel
theorem dX10_hours_39 : decode cX10_hours 39 = .ok (.invokevirtual 224, 3) := by decide +kernel
theorem dX10_hours_42 : decode cX10_hours 42 = .ok (.iinc 2 1, 3) := by decide +kernel
theorem dX10_hours_45 : decode cX10_hours 45 = .ok (.goto (-12), 3) := by decide +kernel
theorem dX10_hours_48 : decode cX10_hours 48 = .ok (.aload_n 0, 1) := by decide +kernel
theorem dX10_hours_49 : decode cX10_hours 49 = .ok (.getfield 149, 3) := by decide +kernel
theorem dX10_hours_52 : decode cX10_hours 52 = .ok (.ireturn, 1) := by decide +kernel
theorem dX10_iron_0 : decode cX10_iron 0 = .ok (.aload_n 0, 1) := by decide +kernel
theorem dX10_iron_1 : decode cX10_iron 1 = .ok (.iload_n 1, 1) := by decide +kernel
theorem dX10_iron_2 : decode cX10_iron 2 = .ok (.invokevirtual 156, 3) := by decide +kernel
theorem dX10_iron_5 : decode cX10_iron 5 = .ok (.ifCond .ne 9, 3) := by decide +kernel
theorem dX10_iron_8 : decode cX10_iron 8 = .ok (.aload_n 0, 1) := by decide +kernel
theorem dX10_iron_9 : decode cX10_iron 9 = .ok (.iconst (-1), 1) := by decide +kernel
theorem dX10_iron_10 : decode cX10_iron 10 = .ok (.invokevirtual 145, 3) := by decide +kernel
theorem dX10_iron_13 : decode cX10_iron 13 = .ok (.ireturn, 1) := by decide +kernel
theorem dX10_iron_14 : decode cX10_iron 14 = .ok (.aload_n 0, 1) := by decide +kernel
theorem dX10_iron_15 : decode cX10_iron 15 = .ok (.getfield 29, 3) := by decide +kernel
theorem dX10_iron_18 : decode cX10_iron 18 = .ok (.iload_n 1, 1) := by decide +kernel
theorem dX10_iron_19 : decode cX10_iron 19 = .ok (.baload, 1) := by decide +kernel
theorem dX10_iron_20 : decode cX10_iron 20 = .ok (.ifCond .eq 10, 3) := by decide +kernel
theorem dX10_iron_23 : decode cX10_iron 23 = .ok (.aload_n 0, 1) := by decide +kernel
theorem dX10_iron_24 : decode cX10_iron 24 = .ok (.bipush (-3), 2) := by decide +kernel
theorem dX10_iron_26 : decode cX10_iron 26 = .ok (.invokevirtual 145, 3) := by decide +kernel
theorem dX10_iron_29 : decode cX10_iron 29 = .ok (.ireturn, 1) := by decide +kernel
theorem dX10_iron_30 : decode cX10_iron 30 = .ok (.aload_n 0, 1) := by decide +kernel
theorem dX10_iron_31 : decode cX10_iron 31 = .ok (.getfield 29, 3) := by decide +kernel
theorem dX10_iron_34 : decode cX10_iron 34 = .ok (.iload_n 1, 1) := by decide +kernel
theorem dX10_iron_35 : decode cX10_iron 35 = .ok (.iconst 1, 1) := by decide +kernel
theorem dX10_iron_36 : decode cX10_iron 36 = .ok (.bastore, 1) := by decide +kernel
theorem dX10_iron_37 : decode cX10_iron 37 = .ok (.aload_n 0, 1) := by decide +kernel
theorem dX10_iron_38 : decode cX10_iron 38 = .ok (.getfield 149, 3) := by decide +kernel
theorem dX10_iron_41 : decode cX10_iron 41 = .ok (.sipush 168, 3) := by decide +kernel
theorem dX10_iron_44 : decode cX10_iron 44 = .ok (.idiv, 1) := by decide +kernel
theorem dX10_iron_45 : decode cX10_iron 45 = .ok (.aload_n 0, 1) := by decide +kernel
theorem dX10_iron_46 : decode cX10_iron 46 = .ok (.getfield 26, 3) := by decide +kernel
theorem dX10_iron_49 : decode cX10_iron 49 = .ok (.iload_n 1, 1) := by decide +kernel
theorem dX10_iron_50 : decode cX10_iron 50 = .ok (.iaload, 1) := by decide +kernel
theorem dX10_iron_51 : decode cX10_iron 51 = .ok (.isub, 1) := by decide +kernel
theorem dX10_iron_52 : decode cX10_iron 52 = .ok (.istore_n 2, 1) := by decide +kernel
theorem dX10_iron_53 : decode cX10_iron 53 = .ok (.aload_n 0, 1) := by decide +kernel
theorem dX10_iron_54 : decode cX10_iron 54 = .ok (.getfield 26, 3) := by decide +kernel
theorem dX10_iron_57 : decode cX10_iron 57 = .ok (.iload_n 1, 1) := by decide +kernel
theorem dX10_iron_58 : decode cX10_iron 58 = .ok (.aload_n 0, 1) := by decide +kernel
theorem dX10_iron_59 : decode cX10_iron 59 = .ok (.getfield 149, 3) := by decide +kernel
theorem dX10_iron_62 : decode cX10_iron 62 = .ok (.sipush 168, 3) := by decide +kernel
theorem dX10_iron_65 : decode cX10_iron 65 = .ok (.idiv, 1) := by decide +kernel
theorem dX10_iron_66 : decode cX10_iron 66 = .ok (.iastore, 1) := by decide +kernel
theorem dX10_iron_67 : decode cX10_iron 67 = .ok (.iload_n 2, 1) := by decide +kernel
theorem dX10_iron_68 : decode cX10_iron 68 = .ok (.ireturn, 1) := by decide +kernel
theorem dX10_renew_0 : decode cX10_renew 0 = .ok (.aload_n 0, 1) := by decide +kernel
theorem dX10_renew_1 : decode cX10_renew 1 = .ok (.iload_n 1, 1) := by decide +kernel
theorem dX10_renew_2 : decode cX10_renew 2 = .ok (.invokevirtual 156, 3) := by decide +kernel
theorem dX10_renew_5 : decode cX10_renew 5 = .ok (.ifCond .ne 9, 3) := by decide +kernel
theorem dX10_renew_8 : decode cX10_renew 8 = .ok (.aload_n 0, 1) := by decide +kernel
theorem dX10_renew_9 : decode cX10_renew 9 = .ok (.iconst (-1), 1) := by decide +kernel
theorem dX10_renew_10 : decode cX10_renew 10 = .ok (.invokevirtual 145, 3) := by decide +kernel
theorem dX10_renew_13 : decode cX10_renew 13 = .ok (.ireturn, 1) := by decide +kernel
theorem dX10_renew_14 : decode cX10_renew 14 = .ok (.aload_n 0, 1) := by decide +kernel
theorem dX10_renew_15 : decode cX10_renew 15 = .ok (.getfield 29, 3) := by decide +kernel
theorem dX10_renew_18 : decode cX10_renew 18 = .ok (.iload_n 1, 1) := by decide +kernel
theorem dX10_renew_19 : decode cX10_renew 19 = .ok (.baload, 1) := by decide +kernel
theorem dX10_renew_20 : decode cX10_renew 20 = .ok (.ifCond .eq 10, 3) := by decide +kernel
theorem dX10_renew_23 : decode cX10_renew 23 = .ok (.aload_n 0, 1) := by decide +kernel
theorem dX10_renew_24 : decode cX10_renew 24 = .ok (.bipush (-3), 2) := by decide +kernel
theorem dX10_renew_26 : decode cX10_renew 26 = .ok (.invokevirtual 145, 3) := by decide +kernel
theorem dX10_renew_29 : decode cX10_renew 29 = .ok (.ireturn, 1) := by decide +kernel
theorem dX10_renew_30 : decode cX10_renew 30 = .ok (.aload_n 0, 1) := by decide +kernel
theorem dX10_renew_31 : decode cX10_renew 31 = .ok (.getfield 149, 3) := by decide +kernel
theorem dX10_renew_34 : decode cX10_renew 34 = .ok (.sipush 168, 3) := by decide +kernel
theorem dX10_renew_37 : decode cX10_renew 37 = .ok (.idiv, 1) := by decide +kernel
theorem dX10_renew_38 : decode cX10_renew 38 = .ok (.aload_n 0, 1) := by decide +kernel
theorem dX10_renew_39 : decode cX10_renew 39 = .ok (.getfield 26, 3) := by decide +kernel
theorem dX10_renew_42 : decode cX10_renew 42 = .ok (.iload_n 1, 1) := by decide +kernel
theorem dX10_renew_43 : decode cX10_renew 43 = .ok (.iaload, 1) := by decide +kernel
theorem dX10_renew_44 : decode cX10_renew 44 = .ok (.isub, 1) := by decide +kernel
theorem dX10_renew_45 : decode cX10_renew 45 = .ok (.istore_n 2, 1) := by decide +kernel
theorem dX10_renew_46 : decode cX10_renew 46 = .ok (.aload_n 0, 1) := by decide +kernel
theorem dX10_renew_47 : decode cX10_renew 47 = .ok (.getfield 26, 3) := by decide +kernel
theorem dX10_renew_50 : decode cX10_renew 50 = .ok (.iload_n 1, 1) := by decide +kernel
theorem dX10_renew_51 : decode cX10_renew 51 = .ok (.aload_n 0, 1) := by decide +kernel
theorem dX10_renew_52 : decode cX10_renew 52 = .ok (.getfield 149, 3) := by decide +kernel
theorem dX10_renew_55 : decode cX10_renew 55 = .ok (.sipush 168, 3) := by decide +kernel
theorem dX10_renew_58 : decode cX10_renew 58 = .ok (.idiv, 1) := by decide +kernel
theorem dX10_renew_59 : decode cX10_renew 59 = .ok (.iastore, 1) := by decide +kernel
theorem dX10_renew_60 : decode cX10_renew 60 = .ok (.iload_n 2, 1) := by decide +kernel
theorem dX10_renew_61 : decode cX10_renew 61 = .ok (.ireturn, 1) := by decide +kernel
theorem dX10_stand_0 : decode cX10_stand 0 = .ok (.iload_n 1, 1) := by decide +kernel
theorem dX10_stand_1 : decode cX10_stand 1 = .ok (.iconst 0, 1) := by decide +kernel
theorem dX10_stand_2 : decode cX10_stand 2 = .ok (.iconst 2, 1) := by decide +kernel
theorem dX10_stand_3 : decode cX10_stand 3 = .ok (.invokestatic 138, 3) := by decide +kernel
theorem dX10_stand_6 : decode cX10_stand 6 = .ok (.ifCond .eq 17, 3) := by decide +kernel
theorem dX10_stand_9 : decode cX10_stand 9 = .ok (.iload_n 2, 1) := by decide +kernel
theorem dX10_stand_10 : decode cX10_stand 10 = .ok (.iconst (-1), 1) := by decide +kernel
theorem dX10_stand_11 : decode cX10_stand 11 = .ok (.aload_n 0, 1) := by decide +kernel
theorem dX10_stand_12 : decode cX10_stand 12 = .ok (.getfield 135, 3) := by decide +kernel
theorem dX10_stand_15 : decode cX10_stand 15 = .ok (.iconst 1, 1) := by decide +kernel
theorem dX10_stand_16 : decode cX10_stand 16 = .ok (.isub, 1) := by decide +kernel
theorem dX10_stand_17 : decode cX10_stand 17 = .ok (.invokestatic 138, 3) := by decide +kernel
theorem dX10_stand_20 : decode cX10_stand 20 = .ok (.ifCond .ne 16, 3) := by decide +kernel
theorem dX10_stand_23 : decode cX10_stand 23 = .ok (.aload_n 0, 1) := by decide +kernel
theorem dX10_stand_24 : decode cX10_stand 24 = .ok (.getfield 111, 3) := by decide +kernel
theorem dX10_stand_27 : decode cX10_stand 27 = .ok (.iconst 1, 1) := by decide +kernel
theorem dX10_stand_28 : decode cX10_stand 28 = .ok (.dup2, 1) := by decide +kernel
theorem dX10_stand_29 : decode cX10_stand 29 = .ok (.iaload, 1) := by decide +kernel
theorem dX10_stand_30 : decode cX10_stand 30 = .ok (.iconst 1, 1) := by decide +kernel
theorem dX10_stand_31 : decode cX10_stand 31 = .ok (.iadd, 1) := by decide +kernel
theorem dX10_stand_32 : decode cX10_stand 32 = .ok (.iastore, 1) := by decide +kernel
theorem dX10_stand_33 : decode cX10_stand 33 = .ok (.ldc 163, 2) := by decide +kernel
theorem dX10_stand_35 : decode cX10_stand 35 = .ok (.ireturn, 1) := by decide +kernel
theorem dX10_stand_36 : decode cX10_stand 36 = .ok (.aload_n 0, 1) := by decide +kernel
theorem dX10_stand_37 : decode cX10_stand 37 = .ok (.getfield 87, 3) := by decide +kernel
theorem dX10_stand_40 : decode cX10_stand 40 = .ok (.iload_n 1, 1) := by decide +kernel
theorem dX10_stand_41 : decode cX10_stand 41 = .ok (.iaload, 1) := by decide +kernel
theorem dX10_stand_42 : decode cX10_stand 42 = .ok (.istore_n 3, 1) := by decide +kernel
theorem dX10_stand_43 : decode cX10_stand 43 = .ok (.aload_n 0, 1) := by decide +kernel
theorem dX10_stand_44 : decode cX10_stand 44 = .ok (.getfield 87, 3) := by decide +kernel
theorem dX10_stand_47 : decode cX10_stand 47 = .ok (.iload_n 1, 1) := by decide +kernel
theorem dX10_stand_48 : decode cX10_stand 48 = .ok (.iload_n 2, 1) := by decide +kernel
theorem dX10_stand_49 : decode cX10_stand 49 = .ok (.iastore, 1) := by decide +kernel
theorem dX10_stand_50 : decode cX10_stand 50 = .ok (.iload_n 3, 1) := by decide +kernel
theorem dX10_stand_51 : decode cX10_stand 51 = .ok (.ireturn, 1) := by decide +kernel
theorem dX10_fire_0 : decode cX10_fire 0 = .ok (.aload_n 0, 1) := by decide +kernel
theorem dX10_fire_1 : decode cX10_fire 1 = .ok (.iload_n 1, 1) := by decide +kernel
theorem dX10_fire_2 : decode cX10_fire 2 = .ok (.invokevirtual 156, 3) := by decide +kernel
theorem dX10_fire_5 : decode cX10_fire 5 = .ok (.ifCond .ne 9, 3) := by decide +kernel
theorem dX10_fire_8 : decode cX10_fire 8 = .ok (.aload_n 0, 1) := by decide +kernel
theorem dX10_fire_9 : decode cX10_fire 9 = .ok (.iconst (-1), 1) := by decide +kernel
theorem dX10_fire_10 : decode cX10_fire 10 = .ok (.invokevirtual 145, 3) := by decide +kernel
theorem dX10_fire_13 : decode cX10_fire 13 = .ok (.ireturn, 1) := by decide +kernel
theorem dX10_fire_14 : decode cX10_fire 14 = .ok (.aload_n 0, 1) := by decide +kernel
theorem dX10_fire_15 : decode cX10_fire 15 = .ok (.getfield 33, 3) := by decide +kernel
theorem dX10_fire_18 : decode cX10_fire 18 = .ok (.iload_n 1, 1) := by decide +kernel
theorem dX10_fire_19 : decode cX10_fire 19 = .ok (.iaload, 1) := by decide +kernel
theorem dX10_fire_20 : decode cX10_fire 20 = .ok (.ifCond .ne 10, 3) := by decide +kernel
theorem dX10_fire_23 : decode cX10_fire 23 = .ok (.aload_n 0, 1) := by decide +kernel
theorem dX10_fire_24 : decode cX10_fire 24 = .ok (.bipush (-5), 2) := by decide +kernel
theorem dX10_fire_26 : decode cX10_fire 26 = .ok (.invokevirtual 145, 3) := by decide +kernel
theorem dX10_fire_29 : decode cX10_fire 29 = .ok (.ireturn, 1) := by decide +kernel
theorem dX10_fire_30 : decode cX10_fire 30 = .ok (.aload_n 0, 1) := by decide +kernel
theorem dX10_fire_31 : decode cX10_fire 31 = .ok (.getfield 33, 3) := by decide +kernel
theorem dX10_fire_34 : decode cX10_fire 34 = .ok (.iload_n 1, 1) := by decide +kernel
theorem dX10_fire_35 : decode cX10_fire 35 = .ok (.iaload, 1) := by decide +kernel
theorem dX10_fire_36 : decode cX10_fire 36 = .ok (.iconst 2, 1) := by decide +kernel
theorem dX10_fire_37 : decode cX10_fire 37 = .ok (.if_icmp .eq 12, 3) := by decide +kernel
theorem dX10_fire_40 : decode cX10_fire 40 = .ok (.iload_n 2, 1) := by decide +kernel
theorem dX10_fire_41 : decode cX10_fire 41 = .ok (.iconst 0, 1) := by decide +kernel
theorem dX10_fire_42 : decode cX10_fire 42 = .ok (.iconst 2, 1) := by decide +kernel
theorem dX10_fire_43 : decode cX10_fire 43 = .ok (.invokestatic 138, 3) := by decide +kernel
theorem dX10_fire_46 : decode cX10_fire 46 = .ok (.ifCond .ne 10, 3) := by decide +kernel
theorem dX10_fire_49 : decode cX10_fire 49 = .ok (.aload_n 0, 1) := by decide +kernel
theorem dX10_fire_50 : decode cX10_fire 50 = .ok (.bipush (-2), 2) := by decide +kernel
theorem dX10_fire_52 : decode cX10_fire 52 = .ok (.invokevirtual 145, 3) := by decide +kernel
theorem dX10_fire_55 : decode cX10_fire 55 = .ok (.ireturn, 1) := by decide +kernel
theorem dX10_fire_56 : decode cX10_fire 56 = .ok (.iconst (-1), 1) := by decide +kernel
theorem dX10_fire_57 : decode cX10_fire 57 = .ok (.istore_n 3, 1) := by decide +kernel
theorem dX10_fire_58 : decode cX10_fire 58 = .ok (.iconst (-1), 1) := by decide +kernel
theorem dX10_fire_59 : decode cX10_fire 59 = .ok (.istore 4, 2) := by decide +kernel
theorem dX10_fire_61 : decode cX10_fire 61 = .ok (.iconst 0, 1) := by decide +kernel
theorem dX10_fire_62 : decode cX10_fire 62 = .ok (.istore 5, 2) := by decide +kernel
theorem dX10_fire_64 : decode cX10_fire 64 = .ok (.iload_n 1, 1) := by decide +kernel
theorem dX10_fire_65 : decode cX10_fire 65 = .ok (.istore 6, 2) := by decide +kernel
theorem dX10_fire_67 : decode cX10_fire 67 = .ok (.iload 6, 2) := by decide +kernel
theorem dX10_fire_69 : decode cX10_fire 69 = .ok (.ifCond .lt 51, 3) := by decide +kernel
theorem dX10_fire_72 : decode cX10_fire 72 = .ok (.aload_n 0, 1) := by decide +kernel
theorem dX10_fire_73 : decode cX10_fire 73 = .ok (.iload 6, 2) := by decide +kernel
theorem dX10_fire_75 : decode cX10_fire 75 = .ok (.aload_n 0, 1) := by decide +kernel
theorem dX10_fire_76 : decode cX10_fire 76 = .ok (.getfield 149, 3) := by decide +kernel
theorem dX10_fire_79 : decode cX10_fire 79 = .ok (.sipush 168, 3) := by decide +kernel
theorem dX10_fire_82 : decode cX10_fire 82 = .ok (.irem, 1) := by decide +kernel
theorem dX10_fire_83 : decode cX10_fire 83 = .ok (.invokevirtual 167, 3) := by decide +kernel
theorem dX10_fire_86 : decode cX10_fire 86 = .ok (.ifCond .ne 22, 3) := by decide +kernel
theorem dX10_fire_89 : decode cX10_fire 89 = .ok (.iload 5, 2) := by decide +kernel
theorem dX10_fire_91 : decode cX10_fire 91 = .ok (.ifCond .ne 8, 3) := by decide +kernel
theorem dX10_fire_94 : decode cX10_fire 94 = .ok (.iload 6, 2) := by decide +kernel
theorem dX10_fire_96 : decode cX10_fire 96 = .ok (.goto 4, 3) := by decide +kernel
theorem dX10_fire_99 : decode cX10_fire 99 = .ok (.iload_n 3, 1) := by decide +kernel
theorem dX10_fire_100 : decode cX10_fire 100 = .ok (.istore_n 3, 1) := by decide +kernel
theorem dX10_fire_101 : decode cX10_fire 101 = .ok (.iload 6, 2) := by decide +kernel
theorem dX10_fire_103 : decode cX10_fire 103 = .ok (.istore 4, 2) := by decide +kernel
theorem dX10_fire_105 : decode cX10_fire 105 = .ok (.iinc 5 1, 3) := by decide +kernel
theorem dX10_fire_108 : decode cX10_fire 108 = .ok (.aload_n 0, 1) := by decide +kernel
theorem dX10_fire_109 : decode cX10_fire 109 = .ok (.getfield 19, 3) := by decide +kernel
theorem dX10_fire_112 : decode cX10_fire 112 = .ok (.iload 6, 2) := by decide +kernel
theorem dX10_fire_114 : decode cX10_fire 114 = .ok (.iaload, 1) := by decide +kernel
theorem dX10_fire_115 : decode cX10_fire 115 = .ok (.istore 6, 2) := by decide +kernel
theorem dX10_fire_117 : decode cX10_fire 117 = .ok (.goto (-50), 3) := by decide +kernel
theorem dX10_fire_120 : decode cX10_fire 120 = .ok (.iconst (-1), 1) := by decide +kernel
theorem dX10_fire_121 : decode cX10_fire 121 = .ok (.istore 6, 2) := by decide +kernel
theorem dX10_fire_123 : decode cX10_fire 123 = .ok (.iconst 0, 1) := by decide +kernel
theorem dX10_fire_124 : decode cX10_fire 124 = .ok (.istore 7, 2) := by decide +kernel
theorem dX10_fire_126 : decode cX10_fire 126 = .ok (.iconst 0, 1) := by decide +kernel
theorem dX10_fire_127 : decode cX10_fire 127 = .ok (.istore 8, 2) := by decide +kernel
theorem dX10_fire_129 : decode cX10_fire 129 = .ok (.iload 8, 2) := by decide +kernel
theorem dX10_fire_131 : decode cX10_fire 131 = .ok (.iconst 3, 1) := by decide +kernel
theorem dX10_fire_132 : decode cX10_fire 132 = .ok (.if_icmp .ge 76, 3) := by decide +kernel
theorem dX10_fire_135 : decode cX10_fire 135 = .ok (.iload 5, 2) := by decide +kernel
theorem dX10_fire_137 : decode cX10_fire 137 = .ok (.ifCond .ne 7, 3) := by decide +kernel
theorem dX10_fire_140 : decode cX10_fire 140 = .ok (.iconst 0, 1) := by decide +kernel
theorem dX10_fire_141 : decode cX10_fire 141 = .ok (.goto 39, 3) := by decide +kernel
theorem dX10_fire_144 : decode cX10_fire 144 = .ok (.aload_n 0, 1) := by decide +kernel
theorem dX10_fire_145 : decode cX10_fire 145 = .ok (.iload_n 3, 1) := by decide +kernel
theorem dX10_fire_146 : decode cX10_fire 146 = .ok (.iload 4, 2) := by decide +kernel
theorem dX10_fire_148 : decode cX10_fire 148 = .ok (.invokevirtual 177, 3) := by decide +kernel
theorem dX10_fire_151 : decode cX10_fire 151 = .ok (.aload_n 0, 1) := by decide +kernel
theorem dX10_fire_152 : decode cX10_fire 152 = .ok (.aload_n 0, 1) := by decide +kernel
theorem dX10_fire_153 : decode cX10_fire 153 = .ok (.getfield 87, 3) := by decide +kernel
theorem dX10_fire_156 : decode cX10_fire 156 = .ok (.iload 8, 2) := by decide +kernel
theorem dX10_fire_158 : decode cX10_fire 158 = .ok (.iaload, 1) := by decide +kernel
theorem dX10_fire_159 : decode cX10_fire 159 = .ok (.iload_n 3, 1) := by decide +kernel
theorem dX10_fire_160 : decode cX10_fire 160 = .ok (.invokevirtual 177, 3) := by decide +kernel
theorem dX10_fire_163 : decode cX10_fire 163 = .ok (.aload_n 0, 1) := by decide +kernel
theorem dX10_fire_164 : decode cX10_fire 164 = .ok (.aload_n 0, 1) := by decide +kernel
theorem dX10_fire_165 : decode cX10_fire 165 = .ok (.getfield 87, 3) := by decide +kernel
theorem dX10_fire_168 : decode cX10_fire 168 = .ok (.iload 8, 2) := by decide +kernel
theorem dX10_fire_170 : decode cX10_fire 170 = .ok (.iaload, 1) := by decide +kernel
theorem dX10_fire_171 : decode cX10_fire 171 = .ok (.iload 4, 2) := by decide +kernel
theorem dX10_fire_173 : decode cX10_fire 173 = .ok (.invokevirtual 177, 3) := by decide +kernel
theorem dX10_fire_176 : decode cX10_fire 176 = .ok (.invokestatic 187, 3) := by decide +kernel
theorem dX10_fire_179 : decode cX10_fire 179 = .ok (.iadd, 1) := by decide +kernel
theorem dX10_fire_180 : decode cX10_fire 180 = .ok (.istore 9, 2) := by decide +kernel
theorem dX10_fire_182 : decode cX10_fire 182 = .ok (.iload 6, 2) := by decide +kernel
theorem dX10_fire_184 : decode cX10_fire 184 = .ok (.ifCond .lt 10, 3) := by decide +kernel
theorem dX10_fire_187 : decode cX10_fire 187 = .ok (.iload 9, 2) := by decide +kernel
theorem dX10_fire_189 : decode cX10_fire 189 = .ok (.iload 6, 2) := by decide +kernel
theorem dX10_fire_191 : decode cX10_fire 191 = .ok (.if_icmp .ge 11, 3) := by decide +kernel
theorem dX10_fire_194 : decode cX10_fire 194 = .ok (.iload 9, 2) := by decide +kernel
theorem dX10_fire_196 : decode cX10_fire 196 = .ok (.istore 6, 2) := by decide +kernel
theorem dX10_fire_198 : decode cX10_fire 198 = .ok (.iload 8, 2) := by decide +kernel
theorem dX10_fire_200 : decode cX10_fire 200 = .ok (.istore 7, 2) := by decide +kernel
theorem dX10_fire_202 : decode cX10_fire 202 = .ok (.iinc 8 1, 3) := by decide +kernel
theorem dX10_fire_205 : decode cX10_fire 205 = .ok (.goto (-76), 3) := by decide +kernel
theorem dX10_fire_208 : decode cX10_fire 208 = .ok (.iload_n 2, 1) := by decide +kernel

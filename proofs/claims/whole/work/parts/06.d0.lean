theorem dX0_init_0 : decode cX0_init 0 = .ok (.aload_n 0, 1) := by decide +kernel
theorem dX0_init_1 : decode cX0_init 1 = .ok (.invokespecial 3, 3) := by decide +kernel
theorem dX0_init_4 : decode cX0_init 4 = .ok (.aload_n 0, 1) := by decide +kernel
theorem dX0_init_5 : decode cX0_init 5 = .ok (.bipush 7, 2) := by decide +kernel
theorem dX0_init_7 : decode cX0_init 7 = .ok (.newarray .int, 2) := by decide +kernel
theorem dX0_init_9 : decode cX0_init 9 = .ok (.putfield 9, 3) := by decide +kernel
theorem dX0_init_12 : decode cX0_init 12 = .ok (.aload_n 0, 1) := by decide +kernel
theorem dX0_init_13 : decode cX0_init 13 = .ok (.bipush 7, 2) := by decide +kernel
theorem dX0_init_15 : decode cX0_init 15 = .ok (.newarray .int, 2) := by decide +kernel
theorem dX0_init_17 : decode cX0_init 17 = .ok (.putfield 15, 3) := by decide +kernel
theorem dX0_init_20 : decode cX0_init 20 = .ok (.aload_n 0, 1) := by decide +kernel
theorem dX0_init_21 : decode cX0_init 21 = .ok (.bipush 7, 2) := by decide +kernel
theorem dX0_init_23 : decode cX0_init 23 = .ok (.newarray .int, 2) := by decide +kernel
theorem dX0_init_25 : decode cX0_init 25 = .ok (.putfield 18, 3) := by decide +kernel
theorem dX0_init_28 : decode cX0_init 28 = .ok (.return_, 1) := by decide +kernel
theorem dX0_has_0 : decode cX0_has 0 = .ok (.iload_n 1, 1) := by decide +kernel
theorem dX0_has_1 : decode cX0_has 1 = .ok (.ifCond .lt 15, 3) := by decide +kernel
theorem dX0_has_4 : decode cX0_has 4 = .ok (.iload_n 1, 1) := by decide +kernel
theorem dX0_has_5 : decode cX0_has 5 = .ok (.aload_n 0, 1) := by decide +kernel
theorem dX0_has_6 : decode cX0_has 6 = .ok (.getfield 21, 3) := by decide +kernel
theorem dX0_has_9 : decode cX0_has 9 = .ok (.if_icmp .ge 7, 3) := by decide +kernel
theorem dX0_has_12 : decode cX0_has 12 = .ok (.iconst 1, 1) := by decide +kernel
theorem dX0_has_13 : decode cX0_has 13 = .ok (.goto 4, 3) := by decide +kernel
theorem dX0_has_16 : decode cX0_has 16 = .ok (.iconst 0, 1) := by decide +kernel
theorem dX0_has_17 : decode cX0_has 17 = .ok (.ireturn, 1) := by decide +kernel
theorem dX0_all_0 : decode cX0_all 0 = .ok (.iconst 1, 1) := by decide +kernel
theorem dX0_all_1 : decode cX0_all 1 = .ok (.aload_n 0, 1) := by decide +kernel
theorem dX0_all_2 : decode cX0_all 2 = .ok (.getfield 21, 3) := by decide +kernel
theorem dX0_all_5 : decode cX0_all 5 = .ok (.ishl, 1) := by decide +kernel
theorem dX0_all_6 : decode cX0_all 6 = .ok (.iconst 1, 1) := by decide +kernel
theorem dX0_all_7 : decode cX0_all 7 = .ok (.isub, 1) := by decide +kernel
theorem dX0_all_8 : decode cX0_all 8 = .ok (.ireturn, 1) := by decide +kernel
theorem dX0_find_0 : decode cX0_find 0 = .ok (.iconst 0, 1) := by decide +kernel
theorem dX0_find_1 : decode cX0_find 1 = .ok (.istore_n 3, 1) := by decide +kernel
theorem dX0_find_2 : decode cX0_find 2 = .ok (.iload_n 3, 1) := by decide +kernel
theorem dX0_find_3 : decode cX0_find 3 = .ok (.aload_n 0, 1) := by decide +kernel
theorem dX0_find_4 : decode cX0_find 4 = .ok (.getfield 21, 3) := by decide +kernel
theorem dX0_find_7 : decode cX0_find 7 = .ok (.if_icmp .ge 31, 3) := by decide +kernel
theorem dX0_find_10 : decode cX0_find 10 = .ok (.aload_n 0, 1) := by decide +kernel
theorem dX0_find_11 : decode cX0_find 11 = .ok (.getfield 9, 3) := by decide +kernel
theorem dX0_find_14 : decode cX0_find 14 = .ok (.iload_n 3, 1) := by decide +kernel
theorem dX0_find_15 : decode cX0_find 15 = .ok (.iaload, 1) := by decide +kernel
theorem dX0_find_16 : decode cX0_find 16 = .ok (.iload_n 1, 1) := by decide +kernel
theorem dX0_find_17 : decode cX0_find 17 = .ok (.if_icmp .ne 15, 3) := by decide +kernel
theorem dX0_find_20 : decode cX0_find 20 = .ok (.aload_n 0, 1) := by decide +kernel
theorem dX0_find_21 : decode cX0_find 21 = .ok (.getfield 15, 3) := by decide +kernel
theorem dX0_find_24 : decode cX0_find 24 = .ok (.iload_n 3, 1) := by decide +kernel
theorem dX0_find_25 : decode cX0_find 25 = .ok (.iaload, 1) := by decide +kernel
theorem dX0_find_26 : decode cX0_find 26 = .ok (.iload_n 2, 1) := by decide +kernel
theorem dX0_find_27 : decode cX0_find 27 = .ok (.if_icmp .ne 5, 3) := by decide +kernel
theorem dX0_find_30 : decode cX0_find 30 = .ok (.iload_n 3, 1) := by decide +kernel
theorem dX0_find_31 : decode cX0_find 31 = .ok (.ireturn, 1) := by decide +kernel
theorem dX0_find_32 : decode cX0_find 32 = .ok (.iinc 3 1, 3) := by decide +kernel
theorem dX0_find_35 : decode cX0_find 35 = .ok (.goto (-33), 3) := by decide +kernel
theorem dX0_find_38 : decode cX0_find 38 = .ok (.iconst (-1), 1) := by decide +kernel
theorem dX0_find_39 : decode cX0_find 39 = .ok (.ireturn, 1) := by decide +kernel
theorem dX0_append_0 : decode cX0_append 0 = .ok (.aload_n 0, 1) := by decide +kernel
theorem dX0_append_1 : decode cX0_append 1 = .ok (.getfield 21, 3) := by decide +kernel
theorem dX0_append_4 : decode cX0_append 4 = .ok (.bipush 7, 2) := by decide +kernel
theorem dX0_append_6 : decode cX0_append 6 = .ok (.if_icmp .lt 5, 3) := by decide +kernel
theorem dX0_append_9 : decode cX0_append 9 = .ok (.iconst (-1), 1) := by decide +kernel
theorem dX0_append_10 : decode cX0_append 10 = .ok (.ireturn, 1) := by decide +kernel
theorem dX0_append_11 : decode cX0_append 11 = .ok (.aload_n 0, 1) := by decide +kernel
theorem dX0_append_12 : decode cX0_append 12 = .ok (.getfield 9, 3) := by decide +kernel
theorem dX0_append_15 : decode cX0_append 15 = .ok (.aload_n 0, 1) := by decide +kernel
theorem dX0_append_16 : decode cX0_append 16 = .ok (.getfield 21, 3) := by decide +kernel
theorem dX0_append_19 : decode cX0_append 19 = .ok (.iload_n 1, 1) := by decide +kernel
theorem dX0_append_20 : decode cX0_append 20 = .ok (.iastore, 1) := by decide +kernel
theorem dX0_append_21 : decode cX0_append 21 = .ok (.aload_n 0, 1) := by decide +kernel
theorem dX0_append_22 : decode cX0_append 22 = .ok (.getfield 15, 3) := by decide +kernel
theorem dX0_append_25 : decode cX0_append 25 = .ok (.aload_n 0, 1) := by decide +kernel
theorem dX0_append_26 : decode cX0_append 26 = .ok (.getfield 21, 3) := by decide +kernel
theorem dX0_append_29 : decode cX0_append 29 = .ok (.iload_n 2, 1) := by decide +kernel
theorem dX0_append_30 : decode cX0_append 30 = .ok (.iastore, 1) := by decide +kernel
theorem dX0_append_31 : decode cX0_append 31 = .ok (.aload_n 0, 1) := by decide +kernel
theorem dX0_append_32 : decode cX0_append 32 = .ok (.getfield 18, 3) := by decide +kernel
theorem dX0_append_35 : decode cX0_append 35 = .ok (.aload_n 0, 1) := by decide +kernel
theorem dX0_append_36 : decode cX0_append 36 = .ok (.getfield 21, 3) := by decide +kernel
theorem dX0_append_39 : decode cX0_append 39 = .ok (.iload_n 3, 1) := by decide +kernel
theorem dX0_append_40 : decode cX0_append 40 = .ok (.iastore, 1) := by decide +kernel
theorem dX0_append_41 : decode cX0_append 41 = .ok (.aload_n 0, 1) := by decide +kernel
theorem dX0_append_42 : decode cX0_append 42 = .ok (.dup, 1) := by decide +kernel
theorem dX0_append_43 : decode cX0_append 43 = .ok (.getfield 21, 3) := by decide +kernel
theorem dX0_append_46 : decode cX0_append 46 = .ok (.iconst 1, 1) := by decide +kernel
theorem dX0_append_47 : decode cX0_append 47 = .ok (.iadd, 1) := by decide +kernel
theorem dX0_append_48 : decode cX0_append 48 = .ok (.putfield 21, 3) := by decide +kernel
theorem dX0_append_51 : decode cX0_append 51 = .ok (.aload_n 0, 1) := by decide +kernel
theorem dX0_append_52 : decode cX0_append 52 = .ok (.getfield 21, 3) := by decide +kernel
theorem dX0_append_55 : decode cX0_append 55 = .ok (.iconst 1, 1) := by decide +kernel
theorem dX0_append_56 : decode cX0_append 56 = .ok (.isub, 1) := by decide +kernel
theorem dX0_append_57 : decode cX0_append 57 = .ok (.ireturn, 1) := by decide +kernel
theorem dX0_remove_0 : decode cX0_remove 0 = .ok (.aload_n 0, 1) := by decide +kernel
theorem dX0_remove_1 : decode cX0_remove 1 = .ok (.iload_n 1, 1) := by decide +kernel
theorem dX0_remove_2 : decode cX0_remove 2 = .ok (.invokevirtual 25, 3) := by decide +kernel
theorem dX0_remove_5 : decode cX0_remove 5 = .ok (.ifCond .ne 4, 3) := by decide +kernel
theorem dX0_remove_8 : decode cX0_remove 8 = .ok (.return_, 1) := by decide +kernel
theorem dX0_remove_9 : decode cX0_remove 9 = .ok (.iload_n 1, 1) := by decide +kernel
theorem dX0_remove_10 : decode cX0_remove 10 = .ok (.iconst 1, 1) := by decide +kernel
theorem dX0_remove_11 : decode cX0_remove 11 = .ok (.iadd, 1) := by decide +kernel
theorem dX0_remove_12 : decode cX0_remove 12 = .ok (.istore_n 2, 1) := by decide +kernel
theorem dX0_remove_13 : decode cX0_remove 13 = .ok (.iload_n 2, 1) := by decide +kernel
theorem dX0_remove_14 : decode cX0_remove 14 = .ok (.aload_n 0, 1) := by decide +kernel
theorem dX0_remove_15 : decode cX0_remove 15 = .ok (.getfield 21, 3) := by decide +kernel
theorem dX0_remove_18 : decode cX0_remove 18 = .ok (.if_icmp .ge 51, 3) := by decide +kernel
theorem dX0_remove_21 : decode cX0_remove 21 = .ok (.aload_n 0, 1) := by decide +kernel
theorem dX0_remove_22 : decode cX0_remove 22 = .ok (.getfield 9, 3) := by decide +kernel
theorem dX0_remove_25 : decode cX0_remove 25 = .ok (.iload_n 2, 1) := by decide +kernel
theorem dX0_remove_26 : decode cX0_remove 26 = .ok (.iconst 1, 1) := by decide +kernel
theorem dX0_remove_27 : decode cX0_remove 27 = .ok (.isub, 1) := by decide +kernel
theorem dX0_remove_28 : decode cX0_remove 28 = .ok (.aload_n 0, 1) := by decide +kernel
theorem dX0_remove_29 : decode cX0_remove 29 = .ok (.getfield 9, 3) := by decide +kernel
theorem dX0_remove_32 : decode cX0_remove 32 = .ok (.iload_n 2, 1) := by decide +kernel
theorem dX0_remove_33 : decode cX0_remove 33 = .ok (.iaload, 1) := by decide +kernel
theorem dX0_remove_34 : decode cX0_remove 34 = .ok (.iastore, 1) := by decide +kernel
theorem dX0_remove_35 : decode cX0_remove 35 = .ok (.aload_n 0, 1) := by decide +kernel
theorem dX0_remove_36 : decode cX0_remove 36 = .ok (.getfield 15, 3) := by decide +kernel
theorem dX0_remove_39 : decode cX0_remove 39 = .ok (.iload_n 2, 1) := by decide +kernel
theorem dX0_remove_40 : decode cX0_remove 40 = .ok (.iconst 1, 1) := by decide +kernel
theorem dX0_remove_41 : decode cX0_remove 41 = .ok (.isub, 1) := by decide +kernel
theorem dX0_remove_42 : decode cX0_remove 42 = .ok (.aload_n 0, 1) := by decide +kernel
theorem dX0_remove_43 : decode cX0_remove 43 = .ok (.getfield 15, 3) := by decide +kernel
theorem dX0_remove_46 : decode cX0_remove 46 = .ok (.iload_n 2, 1) := by decide +kernel
theorem dX0_remove_47 : decode cX0_remove 47 = .ok (.iaload, 1) := by decide +kernel
theorem dX0_remove_48 : decode cX0_remove 48 = .ok (.iastore, 1) := by decide +kernel
theorem dX0_remove_49 : decode cX0_remove 49 = .ok (.aload_n 0, 1) := by decide +kernel
theorem dX0_remove_50 : decode cX0_remove 50 = .ok (.getfield 18, 3) := by decide +kernel
theorem dX0_remove_53 : decode cX0_remove 53 = .ok (.iload_n 2, 1) := by decide +kernel
theorem dX0_remove_54 : decode cX0_remove 54 = .ok (.iconst 1, 1) := by decide +kernel
theorem dX0_remove_55 : decode cX0_remove 55 = .ok (.isub, 1) := by decide +kernel
theorem dX0_remove_56 : decode cX0_remove 56 = .ok (.aload_n 0, 1) := by decide +kernel
theorem dX0_remove_57 : decode cX0_remove 57 = .ok (.getfield 18, 3) := by decide +kernel
theorem dX0_remove_60 : decode cX0_remove 60 = .ok (.iload_n 2, 1) := by decide +kernel
theorem dX0_remove_61 : decode cX0_remove 61 = .ok (.iaload, 1) := by decide +kernel
theorem dX0_remove_62 : decode cX0_remove 62 = .ok (.iastore, 1) := by decide +kernel
theorem dX0_remove_63 : decode cX0_remove 63 = .ok (.iinc 2 1, 3) := by decide +kernel
theorem dX0_remove_66 : decode cX0_remove 66 = .ok (.goto (-53), 3) := by decide +kernel
theorem dX0_remove_69 : decode cX0_remove 69 = .ok (.aload_n 0, 1) := by decide +kernel
theorem dX0_remove_70 : decode cX0_remove 70 = .ok (.dup, 1) := by decide +kernel
theorem dX0_remove_71 : decode cX0_remove 71 = .ok (.getfield 21, 3) := by decide +kernel
theorem dX0_remove_74 : decode cX0_remove 74 = .ok (.iconst 1, 1) := by decide +kernel
theorem dX0_remove_75 : decode cX0_remove 75 = .ok (.isub, 1) := by decide +kernel
theorem dX0_remove_76 : decode cX0_remove 76 = .ok (.putfield 21, 3) := by decide +kernel
theorem dX0_remove_79 : decode cX0_remove 79 = .ok (.return_, 1) := by decide +kernel
theorem dX0_copyFrom_0 : decode cX0_copyFrom 0 = .ok (.iconst 0, 1) := by decide +kernel
theorem dX0_copyFrom_1 : decode cX0_copyFrom 1 = .ok (.istore_n 2, 1) := by decide +kernel
theorem dX0_copyFrom_2 : decode cX0_copyFrom 2 = .ok (.iload_n 2, 1) := by decide +kernel
theorem dX0_copyFrom_3 : decode cX0_copyFrom 3 = .ok (.aload_n 1, 1) := by decide +kernel
theorem dX0_copyFrom_4 : decode cX0_copyFrom 4 = .ok (.getfield 21, 3) := by decide +kernel
theorem dX0_copyFrom_7 : decode cX0_copyFrom 7 = .ok (.if_icmp .ge 45, 3) := by decide +kernel
theorem dX0_copyFrom_10 : decode cX0_copyFrom 10 = .ok (.aload_n 0, 1) := by decide +kernel
theorem dX0_copyFrom_11 : decode cX0_copyFrom 11 = .ok (.getfield 9, 3) := by decide +kernel
theorem dX0_copyFrom_14 : decode cX0_copyFrom 14 = .ok (.iload_n 2, 1) := by decide +kernel
theorem dX0_copyFrom_15 : decode cX0_copyFrom 15 = .ok (.aload_n 1, 1) := by decide +kernel
theorem dX0_copyFrom_16 : decode cX0_copyFrom 16 = .ok (.getfield 9, 3) := by decide +kernel
theorem dX0_copyFrom_19 : decode cX0_copyFrom 19 = .ok (.iload_n 2, 1) := by decide +kernel
theorem dX0_copyFrom_20 : decode cX0_copyFrom 20 = .ok (.iaload, 1) := by decide +kernel
theorem dX0_copyFrom_21 : decode cX0_copyFrom 21 = .ok (.iastore, 1) := by decide +kernel
theorem dX0_copyFrom_22 : decode cX0_copyFrom 22 = .ok (.aload_n 0, 1) := by decide +kernel
theorem dX0_copyFrom_23 : decode cX0_copyFrom 23 = .ok (.getfield 15, 3) := by decide +kernel
theorem dX0_copyFrom_26 : decode cX0_copyFrom 26 = .ok (.iload_n 2, 1) := by decide +kernel
theorem dX0_copyFrom_27 : decode cX0_copyFrom 27 = .ok (.aload_n 1, 1) := by decide +kernel
theorem dX0_copyFrom_28 : decode cX0_copyFrom 28 = .ok (.getfield 15, 3) := by decide +kernel
theorem dX0_copyFrom_31 : decode cX0_copyFrom 31 = .ok (.iload_n 2, 1) := by decide +kernel
theorem dX0_copyFrom_32 : decode cX0_copyFrom 32 = .ok (.iaload, 1) := by decide +kernel
theorem dX0_copyFrom_33 : decode cX0_copyFrom 33 = .ok (.iastore, 1) := by decide +kernel
theorem dX0_copyFrom_34 : decode cX0_copyFrom 34 = .ok (.aload_n 0, 1) := by decide +kernel
theorem dX0_copyFrom_35 : decode cX0_copyFrom 35 = .ok (.getfield 18, 3) := by decide +kernel
theorem dX0_copyFrom_38 : decode cX0_copyFrom 38 = .ok (.iload_n 2, 1) := by decide +kernel
theorem dX0_copyFrom_39 : decode cX0_copyFrom 39 = .ok (.aload_n 1, 1) := by decide +kernel
theorem dX0_copyFrom_40 : decode cX0_copyFrom 40 = .ok (.getfield 18, 3) := by decide +kernel
theorem dX0_copyFrom_43 : decode cX0_copyFrom 43 = .ok (.iload_n 2, 1) := by decide +kernel
theorem dX0_copyFrom_44 : decode cX0_copyFrom 44 = .ok (.iaload, 1) := by decide +kernel
theorem dX0_copyFrom_45 : decode cX0_copyFrom 45 = .ok (.iastore, 1) := by decide +kernel
theorem dX0_copyFrom_46 : decode cX0_copyFrom 46 = .ok (.iinc 2 1, 3) := by decide +kernel
theorem dX0_copyFrom_49 : decode cX0_copyFrom 49 = .ok (.goto (-47), 3) := by decide +kernel
theorem dX0_copyFrom_52 : decode cX0_copyFrom 52 = .ok (.aload_n 0, 1) := by decide +kernel
theorem dX0_copyFrom_53 : decode cX0_copyFrom 53 = .ok (.aload_n 1, 1) := by decide +kernel
theorem dX0_copyFrom_54 : decode cX0_copyFrom 54 = .ok (.getfield 21, 3) := by decide +kernel
theorem dX0_copyFrom_57 : decode cX0_copyFrom 57 = .ok (.putfield 21, 3) := by decide +kernel
theorem dX0_copyFrom_60 : decode cX0_copyFrom 60 = .ok (.return_, 1) := by decide +kernel
theorem dX0_lowest_0 : decode cX0_lowest 0 = .ok (.iconst 0, 1) := by decide +kernel
theorem dX0_lowest_1 : decode cX0_lowest 1 = .ok (.istore 4, 2) := by decide +kernel
theorem dX0_lowest_3 : decode cX0_lowest 3 = .ok (.iconst 0, 1) := by decide +kernel
theorem dX0_lowest_4 : decode cX0_lowest 4 = .ok (.istore 5, 2) := by decide +kernel
theorem dX0_lowest_6 : decode cX0_lowest 6 = .ok (.iconst 0, 1) := by decide +kernel
theorem dX0_lowest_7 : decode cX0_lowest 7 = .ok (.istore 6, 2) := by decide +kernel
theorem dX0_lowest_9 : decode cX0_lowest 9 = .ok (.iload 6, 2) := by decide +kernel
theorem dX0_lowest_11 : decode cX0_lowest 11 = .ok (.aload_n 0, 1) := by decide +kernel
theorem dX0_lowest_12 : decode cX0_lowest 12 = .ok (.getfield 21, 3) := by decide +kernel
theorem dX0_lowest_15 : decode cX0_lowest 15 = .ok (.if_icmp .ge 81, 3) := by decide +kernel
theorem dX0_lowest_18 : decode cX0_lowest 18 = .ok (.iload_n 3, 1) := by decide +kernel
theorem dX0_lowest_19 : decode cX0_lowest 19 = .ok (.aload_n 0, 1) := by decide +kernel
theorem dX0_lowest_20 : decode cX0_lowest 20 = .ok (.getfield 18, 3) := by decide +kernel
theorem dX0_lowest_23 : decode cX0_lowest 23 = .ok (.iload 6, 2) := by decide +kernel
theorem dX0_lowest_25 : decode cX0_lowest 25 = .ok (.iaload, 1) := by decide +kernel
theorem dX0_lowest_26 : decode cX0_lowest 26 = .ok (.imul, 1) := by decide +kernel
theorem dX0_lowest_27 : decode cX0_lowest 27 = .ok (.iload_n 1, 1) := by decide +kernel
theorem dX0_lowest_28 : decode cX0_lowest 28 = .ok (.aload_n 0, 1) := by decide +kernel
theorem dX0_lowest_29 : decode cX0_lowest 29 = .ok (.getfield 9, 3) := by decide +kernel
theorem dX0_lowest_32 : decode cX0_lowest 32 = .ok (.iload 6, 2) := by decide +kernel
theorem dX0_lowest_34 : decode cX0_lowest 34 = .ok (.iaload, 1) := by decide +kernel
theorem dX0_lowest_35 : decode cX0_lowest 35 = .ok (.imul, 1) := by decide +kernel
theorem dX0_lowest_36 : decode cX0_lowest 36 = .ok (.iadd, 1) := by decide +kernel
theorem dX0_lowest_37 : decode cX0_lowest 37 = .ok (.iload_n 2, 1) := by decide +kernel
theorem dX0_lowest_38 : decode cX0_lowest 38 = .ok (.aload_n 0, 1) := by decide +kernel
theorem dX0_lowest_39 : decode cX0_lowest 39 = .ok (.getfield 15, 3) := by decide +kernel
theorem dX0_lowest_42 : decode cX0_lowest 42 = .ok (.iload 6, 2) := by decide +kernel
theorem dX0_lowest_44 : decode cX0_lowest 44 = .ok (.iaload, 1) := by decide +kernel
theorem dX0_lowest_45 : decode cX0_lowest 45 = .ok (.imul, 1) := by decide +kernel
theorem dX0_lowest_46 : decode cX0_lowest 46 = .ok (.iadd, 1) := by decide +kernel
theorem dX0_lowest_47 : decode cX0_lowest 47 = .ok (.istore 7, 2) := by decide +kernel
theorem dX0_lowest_49 : decode cX0_lowest 49 = .ok (.iload 4, 2) := by decide +kernel
theorem dX0_lowest_51 : decode cX0_lowest 51 = .ok (.ifCond .eq 10, 3) := by decide +kernel
theorem dX0_lowest_54 : decode cX0_lowest 54 = .ok (.iload 7, 2) := by decide +kernel
theorem dX0_lowest_56 : decode cX0_lowest 56 = .ok (.iload 5, 2) := by decide +kernel
theorem dX0_lowest_58 : decode cX0_lowest 58 = .ok (.if_icmp .ge 16, 3) := by decide +kernel
theorem dX0_lowest_61 : decode cX0_lowest 61 = .ok (.iload 7, 2) := by decide +kernel
theorem dX0_lowest_63 : decode cX0_lowest 63 = .ok (.istore 5, 2) := by decide +kernel
theorem dX0_lowest_65 : decode cX0_lowest 65 = .ok (.iconst 1, 1) := by decide +kernel
theorem dX0_lowest_66 : decode cX0_lowest 66 = .ok (.iload 6, 2) := by decide +kernel
theorem dX0_lowest_68 : decode cX0_lowest 68 = .ok (.ishl, 1) := by decide +kernel
theorem dX0_lowest_69 : decode cX0_lowest 69 = .ok (.istore 4, 2) := by decide +kernel
theorem dX0_lowest_71 : decode cX0_lowest 71 = .ok (.goto 19, 3) := by decide +kernel
theorem dX0_lowest_74 : decode cX0_lowest 74 = .ok (.iload 7, 2) := by decide +kernel
theorem dX0_lowest_76 : decode cX0_lowest 76 = .ok (.iload 5, 2) := by decide +kernel
theorem dX0_lowest_78 : decode cX0_lowest 78 = .ok (.if_icmp .ne 12, 3) := by decide +kernel
theorem dX0_lowest_81 : decode cX0_lowest 81 = .ok (.iload 4, 2) := by decide +kernel
theorem dX0_lowest_83 : decode cX0_lowest 83 = .ok (.iconst 1, 1) := by decide +kernel
theorem dX0_lowest_84 : decode cX0_lowest 84 = .ok (.iload 6, 2) := by decide +kernel
theorem dX0_lowest_86 : decode cX0_lowest 86 = .ok (.ishl, 1) := by decide +kernel
theorem dX0_lowest_87 : decode cX0_lowest 87 = .ok (.ior, 1) := by decide +kernel
theorem dX0_lowest_88 : decode cX0_lowest 88 = .ok (.istore 4, 2) := by decide +kernel
theorem dX0_lowest_90 : decode cX0_lowest 90 = .ok (.iinc 6 1, 3) := by decide +kernel
theorem dX0_lowest_93 : decode cX0_lowest 93 = .ok (.goto (-84), 3) := by decide +kernel
theorem dX0_lowest_96 : decode cX0_lowest 96 = .ok (.iload 4, 2) := by decide +kernel
theorem dX0_lowest_98 : decode cX0_lowest 98 = .ok (.ireturn, 1) := by decide +kernel
theorem dX1_init_0 : decode cX1_init 0 = .ok (.aload_n 0, 1) := by decide +kernel
theorem dX1_init_1 : decode cX1_init 1 = .ok (.invokespecial 1, 3) := by decide +kernel
theorem dX1_init_4 : decode cX1_init 4 = .ok (.return_, 1) := by decide +kernel
theorem dX1_setSlope_0 : decode cX1_setSlope 0 = .ok (.iconst 1, 1) := by decide +kernel
theorem dX1_setSlope_1 : decode cX1_setSlope 1 = .ok (.iload_n 1, 1) := by decide +kernel
theorem dX1_setSlope_2 : decode cX1_setSlope 2 = .ok (.invokestatic 7, 3) := by decide +kernel
theorem dX1_setSlope_5 : decode cX1_setSlope 5 = .ok (.iload_n 3, 1) := by decide +kernel
theorem dX1_setSlope_6 : decode cX1_setSlope 6 = .ok (.invokestatic 13, 3) := by decide +kernel
theorem dX1_setSlope_9 : decode cX1_setSlope 9 = .ok (.invokestatic 19, 3) := by decide +kernel
theorem dX1_setSlope_12 : decode cX1_setSlope 12 = .ok (.istore 4, 2) := by decide +kernel
theorem dX1_setSlope_14 : decode cX1_setSlope 14 = .ok (.iconst 1, 1) := by decide +kernel
theorem dX1_setSlope_15 : decode cX1_setSlope 15 = .ok (.iload_n 2, 1) := by decide +kernel
theorem dX1_setSlope_16 : decode cX1_setSlope 16 = .ok (.invokestatic 7, 3) := by decide +kernel
theorem dX1_setSlope_19 : decode cX1_setSlope 19 = .ok (.iload_n 3, 1) := by decide +kernel
theorem dX1_setSlope_20 : decode cX1_setSlope 20 = .ok (.invokestatic 13, 3) := by decide +kernel
theorem dX1_setSlope_23 : decode cX1_setSlope 23 = .ok (.invokestatic 19, 3) := by decide +kernel
theorem dX1_setSlope_26 : decode cX1_setSlope 26 = .ok (.istore 5, 2) := by decide +kernel
theorem dX1_setSlope_28 : decode cX1_setSlope 28 = .ok (.aload_n 0, 1) := by decide +kernel
theorem dX1_setSlope_29 : decode cX1_setSlope 29 = .ok (.iload_n 1, 1) := by decide +kernel
theorem dX1_setSlope_30 : decode cX1_setSlope 30 = .ok (.iload 4, 2) := by decide +kernel
theorem dX1_setSlope_32 : decode cX1_setSlope 32 = .ok (.idiv, 1) := by decide +kernel
theorem dX1_setSlope_33 : decode cX1_setSlope 33 = .ok (.putfield 22, 3) := by decide +kernel
theorem dX1_setSlope_36 : decode cX1_setSlope 36 = .ok (.aload_n 0, 1) := by decide +kernel
theorem dX1_setSlope_37 : decode cX1_setSlope 37 = .ok (.iload_n 3, 1) := by decide +kernel
theorem dX1_setSlope_38 : decode cX1_setSlope 38 = .ok (.iload 4, 2) := by decide +kernel
theorem dX1_setSlope_40 : decode cX1_setSlope 40 = .ok (.idiv, 1) := by decide +kernel
theorem dX1_setSlope_41 : decode cX1_setSlope 41 = .ok (.putfield 28, 3) := by decide +kernel
theorem dX1_setSlope_44 : decode cX1_setSlope 44 = .ok (.aload_n 0, 1) := by decide +kernel
theorem dX1_setSlope_45 : decode cX1_setSlope 45 = .ok (.iload_n 2, 1) := by decide +kernel
theorem dX1_setSlope_46 : decode cX1_setSlope 46 = .ok (.iload 5, 2) := by decide +kernel
theorem dX1_setSlope_48 : decode cX1_setSlope 48 = .ok (.idiv, 1) := by decide +kernel
theorem dX1_setSlope_49 : decode cX1_setSlope 49 = .ok (.putfield 31, 3) := by decide +kernel
theorem dX1_setSlope_52 : decode cX1_setSlope 52 = .ok (.aload_n 0, 1) := by decide +kernel
theorem dX1_setSlope_53 : decode cX1_setSlope 53 = .ok (.iload_n 3, 1) := by decide +kernel
theorem dX1_setSlope_54 : decode cX1_setSlope 54 = .ok (.iload 5, 2) := by decide +kernel
theorem dX1_setSlope_56 : decode cX1_setSlope 56 = .ok (.idiv, 1) := by decide +kernel
theorem dX1_setSlope_57 : decode cX1_setSlope 57 = .ok (.putfield 34, 3) := by decide +kernel
theorem dX1_setSlope_60 : decode cX1_setSlope 60 = .ok (.return_, 1) := by decide +kernel
theorem dX1_compareSlope_0 : decode cX1_compareSlope 0 = .ok (.aload_n 0, 1) := by decide +kernel
theorem dX1_compareSlope_1 : decode cX1_compareSlope 1 = .ok (.getfield 22, 3) := by decide +kernel
theorem dX1_compareSlope_4 : decode cX1_compareSlope 4 = .ok (.aload_n 1, 1) := by decide +kernel
theorem dX1_compareSlope_5 : decode cX1_compareSlope 5 = .ok (.getfield 28, 3) := by decide +kernel
theorem dX1_compareSlope_8 : decode cX1_compareSlope 8 = .ok (.imul, 1) := by decide +kernel
theorem dX1_compareSlope_9 : decode cX1_compareSlope 9 = .ok (.aload_n 1, 1) := by decide +kernel
theorem dX1_compareSlope_10 : decode cX1_compareSlope 10 = .ok (.getfield 22, 3) := by decide +kernel
theorem dX1_compareSlope_13 : decode cX1_compareSlope 13 = .ok (.aload_n 0, 1) := by decide +kernel
theorem dX1_compareSlope_14 : decode cX1_compareSlope 14 = .ok (.getfield 28, 3) := by decide +kernel
theorem dX1_compareSlope_17 : decode cX1_compareSlope 17 = .ok (.imul, 1) := by decide +kernel
theorem dX1_compareSlope_18 : decode cX1_compareSlope 18 = .ok (.invokestatic 37, 3) := by decide +kernel
theorem dX1_compareSlope_21 : decode cX1_compareSlope 21 = .ok (.istore_n 2, 1) := by decide +kernel
theorem dX1_compareSlope_22 : decode cX1_compareSlope 22 = .ok (.iload_n 2, 1) := by decide +kernel
theorem dX1_compareSlope_23 : decode cX1_compareSlope 23 = .ok (.ifCond .eq 7, 3) := by decide +kernel
theorem dX1_compareSlope_26 : decode cX1_compareSlope 26 = .ok (.iload_n 2, 1) := by decide +kernel
theorem dX1_compareSlope_27 : decode cX1_compareSlope 27 = .ok (.goto 24, 3) := by decide +kernel
theorem dX1_compareSlope_30 : decode cX1_compareSlope 30 = .ok (.aload_n 0, 1) := by decide +kernel
theorem dX1_compareSlope_31 : decode cX1_compareSlope 31 = .ok (.getfield 31, 3) := by decide +kernel
theorem dX1_compareSlope_34 : decode cX1_compareSlope 34 = .ok (.aload_n 1, 1) := by decide +kernel
theorem dX1_compareSlope_35 : decode cX1_compareSlope 35 = .ok (.getfield 34, 3) := by decide +kernel
theorem dX1_compareSlope_38 : decode cX1_compareSlope 38 = .ok (.imul, 1) := by decide +kernel
theorem dX1_compareSlope_39 : decode cX1_compareSlope 39 = .ok (.aload_n 1, 1) := by decide +kernel
theorem dX1_compareSlope_40 : decode cX1_compareSlope 40 = .ok (.getfield 31, 3) := by decide +kernel
theorem dX1_compareSlope_43 : decode cX1_compareSlope 43 = .ok (.aload_n 0, 1) := by decide +kernel
theorem dX1_compareSlope_44 : decode cX1_compareSlope 44 = .ok (.getfield 34, 3) := by decide +kernel
theorem dX1_compareSlope_47 : decode cX1_compareSlope 47 = .ok (.imul, 1) := by decide +kernel
theorem dX1_compareSlope_48 : decode cX1_compareSlope 48 = .ok (.invokestatic 37, 3) := by decide +kernel
theorem dX1_compareSlope_51 : decode cX1_compareSlope 51 = .ok (.ireturn, 1) := by decide +kernel
theorem dX2_init_0 : decode cX2_init 0 = .ok (.aload_n 0, 1) := by decide +kernel
theorem dX2_init_1 : decode cX2_init 1 = .ok (.invokespecial 3, 3) := by decide +kernel
theorem dX2_init_4 : decode cX2_init 4 = .ok (.aload_n 0, 1) := by decide +kernel
theorem dX2_init_5 : decode cX2_init 5 = .ok (.bipush 94, 2) := by decide +kernel
theorem dX2_init_7 : decode cX2_init 7 = .ok (.anewarray 11, 3) := by decide +kernel
theorem dX2_init_10 : decode cX2_init 10 = .ok (.putfield 13, 3) := by decide +kernel
theorem dX2_init_13 : decode cX2_init 13 = .ok (.aload_n 0, 1) := by decide +kernel
theorem dX2_init_14 : decode cX2_init 14 = .ok (.bipush 42, 2) := by decide +kernel
theorem dX2_init_16 : decode cX2_init 16 = .ok (.newarray .int, 2) := by decide +kernel
theorem dX2_init_18 : decode cX2_init 18 = .ok (.putfield 17, 3) := by decide +kernel
theorem dX2_init_21 : decode cX2_init 21 = .ok (.aload_n 0, 1) := by decide +kernel
theorem dX2_init_22 : decode cX2_init 22 = .ok (.bipush 42, 2) := by decide +kernel
theorem dX2_init_24 : decode cX2_init 24 = .ok (.newarray .int, 2) := by decide +kernel
theorem dX2_init_26 : decode cX2_init 26 = .ok (.putfield 21, 3) := by decide +kernel
theorem dX2_init_29 : decode cX2_init 29 = .ok (.aload_n 0, 1) := by decide +kernel
theorem dX2_init_30 : decode cX2_init 30 = .ok (.bipush 42, 2) := by decide +kernel
theorem dX2_init_32 : decode cX2_init 32 = .ok (.newarray .int, 2) := by decide +kernel
theorem dX2_init_34 : decode cX2_init 34 = .ok (.putfield 24, 3) := by decide +kernel
theorem dX2_init_37 : decode cX2_init 37 = .ok (.aload_n 0, 1) := by decide +kernel
theorem dX2_init_38 : decode cX2_init 38 = .ok (.bipush 42, 2) := by decide +kernel
theorem dX2_init_40 : decode cX2_init 40 = .ok (.newarray .int, 2) := by decide +kernel
theorem dX2_init_42 : decode cX2_init 42 = .ok (.putfield 27, 3) := by decide +kernel
theorem dX2_init_45 : decode cX2_init 45 = .ok (.iconst 0, 1) := by decide +kernel
theorem dX2_init_46 : decode cX2_init 46 = .ok (.istore_n 1, 1) := by decide +kernel
theorem dX2_init_47 : decode cX2_init 47 = .ok (.iload_n 1, 1) := by decide +kernel
theorem dX2_init_48 : decode cX2_init 48 = .ok (.aload_n 0, 1) := by decide +kernel
theorem dX2_init_49 : decode cX2_init 49 = .ok (.getfield 13, 3) := by decide +kernel
theorem dX2_init_52 : decode cX2_init 52 = .ok (.arraylength, 1) := by decide +kernel
theorem dX2_init_53 : decode cX2_init 53 = .ok (.if_icmp .ge 22, 3) := by decide +kernel
theorem dX2_init_56 : decode cX2_init 56 = .ok (.aload_n 0, 1) := by decide +kernel
theorem dX2_init_57 : decode cX2_init 57 = .ok (.getfield 13, 3) := by decide +kernel
theorem dX2_init_60 : decode cX2_init 60 = .ok (.iload_n 1, 1) := by decide +kernel
theorem dX2_init_61 : decode cX2_init 61 = .ok (.new 11, 3) := by decide +kernel
theorem dX2_init_64 : decode cX2_init 64 = .ok (.dup, 1) := by decide +kernel
theorem dX2_init_65 : decode cX2_init 65 = .ok (.invokespecial 30, 3) := by decide +kernel
theorem dX2_init_68 : decode cX2_init 68 = .ok (.aastore, 1) := by decide +kernel
theorem dX2_init_69 : decode cX2_init 69 = .ok (.iinc 1 1, 3) := by decide +kernel
theorem dX2_init_72 : decode cX2_init 72 = .ok (.goto (-25), 3) := by decide +kernel
theorem dX2_init_75 : decode cX2_init 75 = .ok (.return_, 1) := by decide +kernel
theorem dX2_get_0 : decode cX2_get 0 = .ok (.iload_n 1, 1) := by decide +kernel
theorem dX2_get_1 : decode cX2_get 1 = .ok (.ifCond .lt 20, 3) := by decide +kernel
theorem dX2_get_4 : decode cX2_get 4 = .ok (.iload_n 1, 1) := by decide +kernel
theorem dX2_get_5 : decode cX2_get 5 = .ok (.aload_n 0, 1) := by decide +kernel
theorem dX2_get_6 : decode cX2_get 6 = .ok (.getfield 31, 3) := by decide +kernel
theorem dX2_get_9 : decode cX2_get 9 = .ok (.if_icmp .ge 12, 3) := by decide +kernel
theorem dX2_get_12 : decode cX2_get 12 = .ok (.aload_n 0, 1) := by decide +kernel
theorem dX2_get_13 : decode cX2_get 13 = .ok (.getfield 13, 3) := by decide +kernel
theorem dX2_get_16 : decode cX2_get 16 = .ok (.iload_n 1, 1) := by decide +kernel
theorem dX2_get_17 : decode cX2_get 17 = .ok (.aaload, 1) := by decide +kernel
theorem dX2_get_18 : decode cX2_get 18 = .ok (.goto 4, 3) := by decide +kernel
theorem dX2_get_21 : decode cX2_get 21 = .ok (.aconst_null, 1) := by decide +kernel
theorem dX2_get_22 : decode cX2_get 22 = .ok (.areturn, 1) := by decide +kernel
theorem dX2_cut_0 : decode cX2_cut 0 = .ok (.aload_n 0, 1) := by decide +kernel
theorem dX2_cut_1 : decode cX2_cut 1 = .ok (.iconst 0, 1) := by decide +kernel
theorem dX2_cut_2 : decode cX2_cut 2 = .ok (.putfield 31, 3) := by decide +kernel
theorem dX2_cut_5 : decode cX2_cut 5 = .ok (.aload_n 1, 1) := by decide +kernel
theorem dX2_cut_6 : decode cX2_cut 6 = .ok (.getfield 35, 3) := by decide +kernel
theorem dX2_cut_9 : decode cX2_cut 9 = .ok (.ifCond .eq 10, 3) := by decide +kernel
theorem dX2_cut_12 : decode cX2_cut 12 = .ok (.aload_n 2, 1) := by decide +kernel
theorem dX2_cut_13 : decode cX2_cut 13 = .ok (.getfield 35, 3) := by decide +kernel
theorem dX2_cut_16 : decode cX2_cut 16 = .ok (.ifCond .ne 4, 3) := by decide +kernel
theorem dX2_cut_19 : decode cX2_cut 19 = .ok (.return_, 1) := by decide +kernel
theorem dX2_cut_20 : decode cX2_cut 20 = .ok (.aload_n 0, 1) := by decide +kernel
theorem dX2_cut_21 : decode cX2_cut 21 = .ok (.iconst 0, 1) := by decide +kernel
theorem dX2_cut_22 : decode cX2_cut 22 = .ok (.putfield 38, 3) := by decide +kernel
theorem dX2_cut_25 : decode cX2_cut 25 = .ok (.aload_n 0, 1) := by decide +kernel
theorem dX2_cut_26 : decode cX2_cut 26 = .ok (.aload_n 1, 1) := by decide +kernel
theorem dX2_cut_27 : decode cX2_cut 27 = .ok (.iconst 0, 1) := by decide +kernel
theorem dX2_cut_28 : decode cX2_cut 28 = .ok (.invokevirtual 41, 3) := by decide +kernel
theorem dX2_cut_31 : decode cX2_cut 31 = .ok (.aload_n 0, 1) := by decide +kernel
theorem dX2_cut_32 : decode cX2_cut 32 = .ok (.getfield 38, 3) := by decide +kernel
theorem dX2_cut_35 : decode cX2_cut 35 = .ok (.istore_n 3, 1) := by decide +kernel
theorem dX2_cut_36 : decode cX2_cut 36 = .ok (.aload_n 0, 1) := by decide +kernel
theorem dX2_cut_37 : decode cX2_cut 37 = .ok (.aload_n 2, 1) := by decide +kernel
theorem dX2_cut_38 : decode cX2_cut 38 = .ok (.bipush 7, 2) := by decide +kernel
theorem dX2_cut_40 : decode cX2_cut 40 = .ok (.invokevirtual 41, 3) := by decide +kernel
theorem dX2_cut_43 : decode cX2_cut 43 = .ok (.iconst 0, 1) := by decide +kernel
theorem dX2_cut_44 : decode cX2_cut 44 = .ok (.istore 4, 2) := by decide +kernel
theorem dX2_cut_46 : decode cX2_cut 46 = .ok (.iload 4, 2) := by decide +kernel
theorem dX2_cut_48 : decode cX2_cut 48 = .ok (.aload_n 0, 1) := by decide +kernel
theorem dX2_cut_49 : decode cX2_cut 49 = .ok (.getfield 38, 3) := by decide +kernel
theorem dX2_cut_52 : decode cX2_cut 52 = .ok (.if_icmp .ge 79, 3) := by decide +kernel
theorem dX2_cut_55 : decode cX2_cut 55 = .ok (.iload 4, 2) := by decide +kernel
theorem dX2_cut_57 : decode cX2_cut 57 = .ok (.iconst 1, 1) := by decide +kernel
theorem dX2_cut_58 : decode cX2_cut 58 = .ok (.iadd, 1) := by decide +kernel
theorem dX2_cut_59 : decode cX2_cut 59 = .ok (.istore 5, 2) := by decide +kernel
theorem dX2_cut_61 : decode cX2_cut 61 = .ok (.iload 5, 2) := by decide +kernel
theorem dX2_cut_63 : decode cX2_cut 63 = .ok (.aload_n 0, 1) := by decide +kernel
theorem dX2_cut_64 : decode cX2_cut 64 = .ok (.getfield 38, 3) := by decide +kernel
theorem dX2_cut_67 : decode cX2_cut 67 = .ok (.if_icmp .ge 58, 3) := by decide +kernel
theorem dX2_cut_70 : decode cX2_cut 70 = .ok (.iload 4, 2) := by decide +kernel
theorem dX2_cut_72 : decode cX2_cut 72 = .ok (.iload_n 3, 1) := by decide +kernel
theorem dX2_cut_73 : decode cX2_cut 73 = .ok (.if_icmp .ge 13, 3) := by decide +kernel
theorem dX2_cut_76 : decode cX2_cut 76 = .ok (.iload 5, 2) := by decide +kernel
theorem dX2_cut_78 : decode cX2_cut 78 = .ok (.iload_n 3, 1) := by decide +kernel
theorem dX2_cut_79 : decode cX2_cut 79 = .ok (.if_icmp .lt 7, 3) := by decide +kernel
theorem dX2_cut_82 : decode cX2_cut 82 = .ok (.iconst 1, 1) := by decide +kernel
theorem dX2_cut_83 : decode cX2_cut 83 = .ok (.goto 4, 3) := by decide +kernel
theorem dX2_cut_86 : decode cX2_cut 86 = .ok (.iconst 0, 1) := by decide +kernel
theorem dX2_cut_87 : decode cX2_cut 87 = .ok (.istore 6, 2) := by decide +kernel
theorem dX2_cut_89 : decode cX2_cut 89 = .ok (.iload 6, 2) := by decide +kernel
theorem dX2_cut_91 : decode cX2_cut 91 = .ok (.ifCond .ne 18, 3) := by decide +kernel
theorem dX2_cut_94 : decode cX2_cut 94 = .ok (.aload_n 0, 1) := by decide +kernel
theorem dX2_cut_95 : decode cX2_cut 95 = .ok (.iload 4, 2) := by decide +kernel
theorem dX2_cut_97 : decode cX2_cut 97 = .ok (.invokevirtual 45, 3) := by decide +kernel
theorem dX2_cut_100 : decode cX2_cut 100 = .ok (.aload_n 0, 1) := by decide +kernel
theorem dX2_cut_101 : decode cX2_cut 101 = .ok (.iload 5, 2) := by decide +kernel
theorem dX2_cut_103 : decode cX2_cut 103 = .ok (.invokevirtual 45, 3) := by decide +kernel
theorem dX2_cut_106 : decode cX2_cut 106 = .ok (.if_icmp .ne 13, 3) := by decide +kernel
theorem dX2_cut_109 : decode cX2_cut 109 = .ok (.aload_n 0, 1) := by decide +kernel
theorem dX2_cut_110 : decode cX2_cut 110 = .ok (.aload_n 1, 1) := by decide +kernel
theorem dX2_cut_111 : decode cX2_cut 111 = .ok (.aload_n 2, 1) := by decide +kernel
theorem dX2_cut_112 : decode cX2_cut 112 = .ok (.iload 4, 2) := by decide +kernel
theorem dX2_cut_114 : decode cX2_cut 114 = .ok (.iload 5, 2) := by decide +kernel
theorem dX2_cut_116 : decode cX2_cut 116 = .ok (.invokevirtual 49, 3) := by decide +kernel
theorem dX2_cut_119 : decode cX2_cut 119 = .ok (.iinc 5 1, 3) := by decide +kernel
theorem dX2_cut_122 : decode cX2_cut 122 = .ok (.goto (-61), 3) := by decide +kernel
theorem dX2_cut_125 : decode cX2_cut 125 = .ok (.iinc 4 1, 3) := by decide +kernel
theorem dX2_cut_128 : decode cX2_cut 128 = .ok (.goto (-82), 3) := by decide +kernel
theorem dX2_cut_131 : decode cX2_cut 131 = .ok (.return_, 1) := by decide +kernel
theorem dX2_addPairs_0 : decode cX2_addPairs 0 = .ok (.iconst 0, 1) := by decide +kernel
theorem dX2_addPairs_1 : decode cX2_addPairs 1 = .ok (.istore_n 3, 1) := by decide +kernel
theorem dX2_addPairs_2 : decode cX2_addPairs 2 = .ok (.iload_n 3, 1) := by decide +kernel
theorem dX2_addPairs_3 : decode cX2_addPairs 3 = .ok (.aload_n 1, 1) := by decide +kernel
theorem dX2_addPairs_4 : decode cX2_addPairs 4 = .ok (.getfield 35, 3) := by decide +kernel
theorem dX2_addPairs_7 : decode cX2_addPairs 7 = .ok (.if_icmp .ge 136, 3) := by decide +kernel
theorem dX2_addPairs_10 : decode cX2_addPairs 10 = .ok (.iload_n 3, 1) := by decide +kernel
theorem dX2_addPairs_11 : decode cX2_addPairs 11 = .ok (.iconst 1, 1) := by decide +kernel
theorem dX2_addPairs_12 : decode cX2_addPairs 12 = .ok (.iadd, 1) := by decide +kernel
theorem dX2_addPairs_13 : decode cX2_addPairs 13 = .ok (.istore 4, 2) := by decide +kernel
theorem dX2_addPairs_15 : decode cX2_addPairs 15 = .ok (.iload 4, 2) := by decide +kernel
theorem dX2_addPairs_17 : decode cX2_addPairs 17 = .ok (.aload_n 1, 1) := by decide +kernel
theorem dX2_addPairs_18 : decode cX2_addPairs 18 = .ok (.getfield 35, 3) := by decide +kernel
theorem dX2_addPairs_21 : decode cX2_addPairs 21 = .ok (.if_icmp .ge 116, 3) := by decide +kernel
theorem dX2_addPairs_24 : decode cX2_addPairs 24 = .ok (.aload_n 0, 1) := by decide +kernel
theorem dX2_addPairs_25 : decode cX2_addPairs 25 = .ok (.getfield 38, 3) := by decide +kernel
theorem dX2_addPairs_28 : decode cX2_addPairs 28 = .ok (.bipush 42, 2) := by decide +kernel
theorem dX2_addPairs_30 : decode cX2_addPairs 30 = .ok (.if_icmp .ge 107, 3) := by decide +kernel
theorem dX2_addPairs_33 : decode cX2_addPairs 33 = .ok (.aload_n 0, 1) := by decide +kernel
theorem dX2_addPairs_34 : decode cX2_addPairs 34 = .ok (.getfield 17, 3) := by decide +kernel
theorem dX2_addPairs_37 : decode cX2_addPairs 37 = .ok (.aload_n 0, 1) := by decide +kernel
theorem dX2_addPairs_38 : decode cX2_addPairs 38 = .ok (.getfield 38, 3) := by decide +kernel
theorem dX2_addPairs_41 : decode cX2_addPairs 41 = .ok (.aload_n 1, 1) := by decide +kernel
theorem dX2_addPairs_42 : decode cX2_addPairs 42 = .ok (.getfield 53, 3) := by decide +kernel
theorem dX2_addPairs_45 : decode cX2_addPairs 45 = .ok (.iload 4, 2) := by decide +kernel
theorem dX2_addPairs_47 : decode cX2_addPairs 47 = .ok (.iaload, 1) := by decide +kernel
theorem dX2_addPairs_48 : decode cX2_addPairs 48 = .ok (.aload_n 1, 1) := by decide +kernel
theorem dX2_addPairs_49 : decode cX2_addPairs 49 = .ok (.getfield 53, 3) := by decide +kernel
theorem dX2_addPairs_52 : decode cX2_addPairs 52 = .ok (.iload_n 3, 1) := by decide +kernel
theorem dX2_addPairs_53 : decode cX2_addPairs 53 = .ok (.iaload, 1) := by decide +kernel
theorem dX2_addPairs_54 : decode cX2_addPairs 54 = .ok (.isub, 1) := by decide +kernel
theorem dX2_addPairs_55 : decode cX2_addPairs 55 = .ok (.iastore, 1) := by decide +kernel
theorem dX2_addPairs_56 : decode cX2_addPairs 56 = .ok (.aload_n 0, 1) := by decide +kernel
theorem dX2_addPairs_57 : decode cX2_addPairs 57 = .ok (.getfield 21, 3) := by decide +kernel
theorem dX2_addPairs_60 : decode cX2_addPairs 60 = .ok (.aload_n 0, 1) := by decide +kernel
theorem dX2_addPairs_61 : decode cX2_addPairs 61 = .ok (.getfield 38, 3) := by decide +kernel
theorem dX2_addPairs_64 : decode cX2_addPairs 64 = .ok (.aload_n 1, 1) := by decide +kernel
theorem dX2_addPairs_65 : decode cX2_addPairs 65 = .ok (.getfield 56, 3) := by decide +kernel
theorem dX2_addPairs_68 : decode cX2_addPairs 68 = .ok (.iload 4, 2) := by decide +kernel
theorem dX2_addPairs_70 : decode cX2_addPairs 70 = .ok (.iaload, 1) := by decide +kernel
theorem dX2_addPairs_71 : decode cX2_addPairs 71 = .ok (.aload_n 1, 1) := by decide +kernel
theorem dX2_addPairs_72 : decode cX2_addPairs 72 = .ok (.getfield 56, 3) := by decide +kernel
theorem dX2_addPairs_75 : decode cX2_addPairs 75 = .ok (.iload_n 3, 1) := by decide +kernel
theorem dX2_addPairs_76 : decode cX2_addPairs 76 = .ok (.iaload, 1) := by decide +kernel
theorem dX2_addPairs_77 : decode cX2_addPairs 77 = .ok (.isub, 1) := by decide +kernel
theorem dX2_addPairs_78 : decode cX2_addPairs 78 = .ok (.iastore, 1) := by decide +kernel
theorem dX2_addPairs_79 : decode cX2_addPairs 79 = .ok (.aload_n 0, 1) := by decide +kernel
theorem dX2_addPairs_80 : decode cX2_addPairs 80 = .ok (.getfield 24, 3) := by decide +kernel
theorem dX2_addPairs_83 : decode cX2_addPairs 83 = .ok (.aload_n 0, 1) := by decide +kernel
theorem dX2_addPairs_84 : decode cX2_addPairs 84 = .ok (.getfield 38, 3) := by decide +kernel
theorem dX2_addPairs_87 : decode cX2_addPairs 87 = .ok (.aload_n 1, 1) := by decide +kernel
theorem dX2_addPairs_88 : decode cX2_addPairs 88 = .ok (.getfield 59, 3) := by decide +kernel
theorem dX2_addPairs_91 : decode cX2_addPairs 91 = .ok (.iload 4, 2) := by decide +kernel
theorem dX2_addPairs_93 : decode cX2_addPairs 93 = .ok (.iaload, 1) := by decide +kernel
theorem dX2_addPairs_94 : decode cX2_addPairs 94 = .ok (.aload_n 1, 1) := by decide +kernel
theorem dX2_addPairs_95 : decode cX2_addPairs 95 = .ok (.getfield 59, 3) := by decide +kernel
theorem dX2_addPairs_98 : decode cX2_addPairs 98 = .ok (.iload_n 3, 1) := by decide +kernel
theorem dX2_addPairs_99 : decode cX2_addPairs 99 = .ok (.iaload, 1) := by decide +kernel
theorem dX2_addPairs_100 : decode cX2_addPairs 100 = .ok (.isub, 1) := by decide +kernel
theorem dX2_addPairs_101 : decode cX2_addPairs 101 = .ok (.iastore, 1) := by decide +kernel
theorem dX2_addPairs_102 : decode cX2_addPairs 102 = .ok (.aload_n 0, 1) := by decide +kernel
theorem dX2_addPairs_103 : decode cX2_addPairs 103 = .ok (.getfield 27, 3) := by decide +kernel
theorem dX2_addPairs_106 : decode cX2_addPairs 106 = .ok (.aload_n 0, 1) := by decide +kernel
theorem dX2_addPairs_107 : decode cX2_addPairs 107 = .ok (.getfield 38, 3) := by decide +kernel
theorem dX2_addPairs_110 : decode cX2_addPairs 110 = .ok (.iconst 1, 1) := by decide +kernel
theorem dX2_addPairs_111 : decode cX2_addPairs 111 = .ok (.iload_n 3, 1) := by decide +kernel
theorem dX2_addPairs_112 : decode cX2_addPairs 112 = .ok (.ishl, 1) := by decide +kernel
theorem dX2_addPairs_113 : decode cX2_addPairs 113 = .ok (.iconst 1, 1) := by decide +kernel
theorem dX2_addPairs_114 : decode cX2_addPairs 114 = .ok (.iload 4, 2) := by decide +kernel
theorem dX2_addPairs_116 : decode cX2_addPairs 116 = .ok (.ishl, 1) := by decide +kernel
theorem dX2_addPairs_117 : decode cX2_addPairs 117 = .ok (.ior, 1) := by decide +kernel
theorem dX2_addPairs_118 : decode cX2_addPairs 118 = .ok (.iload_n 2, 1) := by decide +kernel
theorem dX2_addPairs_119 : decode cX2_addPairs 119 = .ok (.ishl, 1) := by decide +kernel
theorem dX2_addPairs_120 : decode cX2_addPairs 120 = .ok (.iastore, 1) := by decide +kernel
theorem dX2_addPairs_121 : decode cX2_addPairs 121 = .ok (.aload_n 0, 1) := by decide +kernel
theorem dX2_addPairs_122 : decode cX2_addPairs 122 = .ok (.dup, 1) := by decide +kernel
theorem dX2_addPairs_123 : decode cX2_addPairs 123 = .ok (.getfield 38, 3) := by decide +kernel
theorem dX2_addPairs_126 : decode cX2_addPairs 126 = .ok (.iconst 1, 1) := by decide +kernel
theorem dX2_addPairs_127 : decode cX2_addPairs 127 = .ok (.iadd, 1) := by decide +kernel
theorem dX2_addPairs_128 : decode cX2_addPairs 128 = .ok (.putfield 38, 3) := by decide +kernel
theorem dX2_addPairs_131 : decode cX2_addPairs 131 = .ok (.iinc 4 1, 3) := by decide +kernel
theorem dX2_addPairs_134 : decode cX2_addPairs 134 = .ok (.goto (-119), 3) := by decide +kernel
theorem dX2_addPairs_137 : decode cX2_addPairs 137 = .ok (.iinc 3 1, 3) := by decide +kernel
theorem dX2_addPairs_140 : decode cX2_addPairs 140 = .ok (.goto (-138), 3) := by decide +kernel
theorem dX2_addPairs_143 : decode cX2_addPairs 143 = .ok (.return_, 1) := by decide +kernel
theorem dX2_firstEnd_0 : decode cX2_firstEnd 0 = .ok (.aload_n 0, 1) := by decide +kernel
theorem dX2_firstEnd_1 : decode cX2_firstEnd 1 = .ok (.getfield 27, 3) := by decide +kernel
theorem dX2_firstEnd_4 : decode cX2_firstEnd 4 = .ok (.iload_n 1, 1) := by decide +kernel
theorem dX2_firstEnd_5 : decode cX2_firstEnd 5 = .ok (.iaload, 1) := by decide +kernel
theorem dX2_firstEnd_6 : decode cX2_firstEnd 6 = .ok (.invokestatic 62, 3) := by decide +kernel
theorem dX2_firstEnd_9 : decode cX2_firstEnd 9 = .ok (.ireturn, 1) := by decide +kernel
theorem dX2_tryPairs_0 : decode cX2_tryPairs 0 = .ok (.aload_n 0, 1) := by decide +kernel
theorem dX2_tryPairs_1 : decode cX2_tryPairs 1 = .ok (.getfield 17, 3) := by decide +kernel
theorem dX2_tryPairs_4 : decode cX2_tryPairs 4 = .ok (.iload_n 3, 1) := by decide +kernel
theorem dX2_tryPairs_5 : decode cX2_tryPairs 5 = .ok (.iaload, 1) := by decide +kernel
theorem dX2_tryPairs_6 : decode cX2_tryPairs 6 = .ok (.aload_n 0, 1) := by decide +kernel
theorem dX2_tryPairs_7 : decode cX2_tryPairs 7 = .ok (.getfield 21, 3) := by decide +kernel
theorem dX2_tryPairs_10 : decode cX2_tryPairs 10 = .ok (.iload 4, 2) := by decide +kernel
theorem dX2_tryPairs_12 : decode cX2_tryPairs 12 = .ok (.iaload, 1) := by decide +kernel
theorem dX2_tryPairs_13 : decode cX2_tryPairs 13 = .ok (.imul, 1) := by decide +kernel
theorem dX2_tryPairs_14 : decode cX2_tryPairs 14 = .ok (.aload_n 0, 1) := by decide +kernel
theorem dX2_tryPairs_15 : decode cX2_tryPairs 15 = .ok (.getfield 17, 3) := by decide +kernel
theorem dX2_tryPairs_18 : decode cX2_tryPairs 18 = .ok (.iload 4, 2) := by decide +kernel
theorem dX2_tryPairs_20 : decode cX2_tryPairs 20 = .ok (.iaload, 1) := by decide +kernel
theorem dX2_tryPairs_21 : decode cX2_tryPairs 21 = .ok (.aload_n 0, 1) := by decide +kernel
theorem dX2_tryPairs_22 : decode cX2_tryPairs 22 = .ok (.getfield 21, 3) := by decide +kernel
theorem dX2_tryPairs_25 : decode cX2_tryPairs 25 = .ok (.iload_n 3, 1) := by decide +kernel
theorem dX2_tryPairs_26 : decode cX2_tryPairs 26 = .ok (.iaload, 1) := by decide +kernel
theorem dX2_tryPairs_27 : decode cX2_tryPairs 27 = .ok (.imul, 1) := by decide +kernel
theorem dX2_tryPairs_28 : decode cX2_tryPairs 28 = .ok (.isub, 1) := by decide +kernel
theorem dX2_tryPairs_29 : decode cX2_tryPairs 29 = .ok (.istore 5, 2) := by decide +kernel
theorem dX2_tryPairs_31 : decode cX2_tryPairs 31 = .ok (.iload 5, 2) := by decide +kernel
theorem dX2_tryPairs_33 : decode cX2_tryPairs 33 = .ok (.ifCond .ne 4, 3) := by decide +kernel
theorem dX2_tryPairs_36 : decode cX2_tryPairs 36 = .ok (.return_, 1) := by decide +kernel
theorem dX2_tryPairs_37 : decode cX2_tryPairs 37 = .ok (.iload 5, 2) := by decide +kernel
theorem dX2_tryPairs_39 : decode cX2_tryPairs 39 = .ok (.ifCond .ge 7, 3) := by decide +kernel
theorem dX2_tryPairs_42 : decode cX2_tryPairs 42 = .ok (.iconst (-1), 1) := by decide +kernel
theorem dX2_tryPairs_43 : decode cX2_tryPairs 43 = .ok (.goto 4, 3) := by decide +kernel
theorem dX2_tryPairs_46 : decode cX2_tryPairs 46 = .ok (.iconst 1, 1) := by decide +kernel
theorem dX2_tryPairs_47 : decode cX2_tryPairs 47 = .ok (.istore 6, 2) := by decide +kernel
theorem dX2_tryPairs_49 : decode cX2_tryPairs 49 = .ok (.iload 6, 2) := by decide +kernel
theorem dX2_tryPairs_51 : decode cX2_tryPairs 51 = .ok (.iload 5, 2) := by decide +kernel
theorem dX2_tryPairs_53 : decode cX2_tryPairs 53 = .ok (.imul, 1) := by decide +kernel
theorem dX2_tryPairs_54 : decode cX2_tryPairs 54 = .ok (.istore 7, 2) := by decide +kernel
theorem dX2_tryPairs_56 : decode cX2_tryPairs 56 = .ok (.iload 6, 2) := by decide +kernel
theorem dX2_tryPairs_58 : decode cX2_tryPairs 58 = .ok (.aload_n 0, 1) := by decide +kernel
theorem dX2_tryPairs_59 : decode cX2_tryPairs 59 = .ok (.getfield 24, 3) := by decide +kernel
theorem dX2_tryPairs_62 : decode cX2_tryPairs 62 = .ok (.iload 4, 2) := by decide +kernel
theorem dX2_tryPairs_64 : decode cX2_tryPairs 64 = .ok (.iaload, 1) := by decide +kernel
theorem dX2_tryPairs_65 : decode cX2_tryPairs 65 = .ok (.aload_n 0, 1) := by decide +kernel
theorem dX2_tryPairs_66 : decode cX2_tryPairs 66 = .ok (.getfield 21, 3) := by decide +kernel
theorem dX2_tryPairs_69 : decode cX2_tryPairs 69 = .ok (.iload_n 3, 1) := by decide +kernel
theorem dX2_tryPairs_70 : decode cX2_tryPairs 70 = .ok (.iaload, 1) := by decide +kernel
theorem dX2_tryPairs_71 : decode cX2_tryPairs 71 = .ok (.imul, 1) := by decide +kernel
theorem dX2_tryPairs_72 : decode cX2_tryPairs 72 = .ok (.aload_n 0, 1) := by decide +kernel
theorem dX2_tryPairs_73 : decode cX2_tryPairs 73 = .ok (.getfield 24, 3) := by decide +kernel
theorem dX2_tryPairs_76 : decode cX2_tryPairs 76 = .ok (.iload_n 3, 1) := by decide +kernel
theorem dX2_tryPairs_77 : decode cX2_tryPairs 77 = .ok (.iaload, 1) := by decide +kernel
theorem dX2_tryPairs_78 : decode cX2_tryPairs 78 = .ok (.aload_n 0, 1) := by decide +kernel
theorem dX2_tryPairs_79 : decode cX2_tryPairs 79 = .ok (.getfield 21, 3) := by decide +kernel
theorem dX2_tryPairs_82 : decode cX2_tryPairs 82 = .ok (.iload 4, 2) := by decide +kernel
theorem dX2_tryPairs_84 : decode cX2_tryPairs 84 = .ok (.iaload, 1) := by decide +kernel
theorem dX2_tryPairs_85 : decode cX2_tryPairs 85 = .ok (.imul, 1) := by decide +kernel
theorem dX2_tryPairs_86 : decode cX2_tryPairs 86 = .ok (.isub, 1) := by decide +kernel
theorem dX2_tryPairs_87 : decode cX2_tryPairs 87 = .ok (.imul, 1) := by decide +kernel
theorem dX2_tryPairs_88 : decode cX2_tryPairs 88 = .ok (.istore 8, 2) := by decide +kernel
theorem dX2_tryPairs_90 : decode cX2_tryPairs 90 = .ok (.iload 6, 2) := by decide +kernel
theorem dX2_tryPairs_92 : decode cX2_tryPairs 92 = .ok (.aload_n 0, 1) := by decide +kernel
theorem dX2_tryPairs_93 : decode cX2_tryPairs 93 = .ok (.getfield 24, 3) := by decide +kernel
theorem dX2_tryPairs_96 : decode cX2_tryPairs 96 = .ok (.iload_n 3, 1) := by decide +kernel
theorem dX2_tryPairs_97 : decode cX2_tryPairs 97 = .ok (.iaload, 1) := by decide +kernel
theorem dX2_tryPairs_98 : decode cX2_tryPairs 98 = .ok (.aload_n 0, 1) := by decide +kernel
theorem dX2_tryPairs_99 : decode cX2_tryPairs 99 = .ok (.getfield 17, 3) := by decide +kernel
theorem dX2_tryPairs_102 : decode cX2_tryPairs 102 = .ok (.iload 4, 2) := by decide +kernel
theorem dX2_tryPairs_104 : decode cX2_tryPairs 104 = .ok (.iaload, 1) := by decide +kernel
theorem dX2_tryPairs_105 : decode cX2_tryPairs 105 = .ok (.imul, 1) := by decide +kernel
theorem dX2_tryPairs_106 : decode cX2_tryPairs 106 = .ok (.aload_n 0, 1) := by decide +kernel
theorem dX2_tryPairs_107 : decode cX2_tryPairs 107 = .ok (.getfield 24, 3) := by decide +kernel
theorem dX2_tryPairs_110 : decode cX2_tryPairs 110 = .ok (.iload 4, 2) := by decide +kernel
theorem dX2_tryPairs_112 : decode cX2_tryPairs 112 = .ok (.iaload, 1) := by decide +kernel
theorem dX2_tryPairs_113 : decode cX2_tryPairs 113 = .ok (.aload_n 0, 1) := by decide +kernel
theorem dX2_tryPairs_114 : decode cX2_tryPairs 114 = .ok (.getfield 17, 3) := by decide +kernel
theorem dX2_tryPairs_117 : decode cX2_tryPairs 117 = .ok (.iload_n 3, 1) := by decide +kernel
theorem dX2_tryPairs_118 : decode cX2_tryPairs 118 = .ok (.iaload, 1) := by decide +kernel
theorem dX2_tryPairs_119 : decode cX2_tryPairs 119 = .ok (.imul, 1) := by decide +kernel
theorem dX2_tryPairs_120 : decode cX2_tryPairs 120 = .ok (.isub, 1) := by decide +kernel
theorem dX2_tryPairs_121 : decode cX2_tryPairs 121 = .ok (.imul, 1) := by decide +kernel
theorem dX2_tryPairs_122 : decode cX2_tryPairs 122 = .ok (.istore 9, 2) := by decide +kernel
theorem dX2_tryPairs_124 : decode cX2_tryPairs 124 = .ok (.aload_n 0, 1) := by decide +kernel
theorem dX2_tryPairs_125 : decode cX2_tryPairs 125 = .ok (.getfield 27, 3) := by decide +kernel
theorem dX2_tryPairs_128 : decode cX2_tryPairs 128 = .ok (.iload_n 3, 1) := by decide +kernel
theorem dX2_tryPairs_129 : decode cX2_tryPairs 129 = .ok (.iaload, 1) := by decide +kernel
theorem dX2_tryPairs_130 : decode cX2_tryPairs 130 = .ok (.aload_n 0, 1) := by decide +kernel
theorem dX2_tryPairs_131 : decode cX2_tryPairs 131 = .ok (.getfield 27, 3) := by decide +kernel
theorem dX2_tryPairs_134 : decode cX2_tryPairs 134 = .ok (.iload 4, 2) := by decide +kernel
theorem dX2_tryPairs_136 : decode cX2_tryPairs 136 = .ok (.iaload, 1) := by decide +kernel
theorem dX2_tryPairs_137 : decode cX2_tryPairs 137 = .ok (.ior, 1) := by decide +kernel
theorem dX2_tryPairs_138 : decode cX2_tryPairs 138 = .ok (.istore 10, 2) := by decide +kernel
theorem dX2_tryPairs_140 : decode cX2_tryPairs 140 = .ok (.aload_n 1, 1) := by decide +kernel
theorem dX2_tryPairs_141 : decode cX2_tryPairs 141 = .ok (.iload 8, 2) := by decide +kernel
theorem dX2_tryPairs_143 : decode cX2_tryPairs 143 = .ok (.iload 9, 2) := by decide +kernel
theorem dX2_tryPairs_145 : decode cX2_tryPairs 145 = .ok (.iload 7, 2) := by decide +kernel
theorem dX2_tryPairs_147 : decode cX2_tryPairs 147 = .ok (.invokevirtual 67, 3) := by decide +kernel
theorem dX2_tryPairs_150 : decode cX2_tryPairs 150 = .ok (.istore 11, 2) := by decide +kernel
theorem dX2_tryPairs_152 : decode cX2_tryPairs 152 = .ok (.iload 10, 2) := by decide +kernel
theorem dX2_tryPairs_154 : decode cX2_tryPairs 154 = .ok (.bipush 127, 2) := by decide +kernel
theorem dX2_tryPairs_156 : decode cX2_tryPairs 156 = .ok (.iand, 1) := by decide +kernel
theorem dX2_tryPairs_157 : decode cX2_tryPairs 157 = .ok (.iload 11, 2) := by decide +kernel
theorem dX2_tryPairs_159 : decode cX2_tryPairs 159 = .ok (.iconst (-1), 1) := by decide +kernel
theorem dX2_tryPairs_160 : decode cX2_tryPairs 160 = .ok (.ixor, 1) := by decide +kernel
theorem dX2_tryPairs_161 : decode cX2_tryPairs 161 = .ok (.iand, 1) := by decide +kernel
theorem dX2_tryPairs_162 : decode cX2_tryPairs 162 = .ok (.ifCond .eq 4, 3) := by decide +kernel
theorem dX2_tryPairs_165 : decode cX2_tryPairs 165 = .ok (.return_, 1) := by decide +kernel
theorem dX2_tryPairs_166 : decode cX2_tryPairs 166 = .ok (.aload_n 2, 1) := by decide +kernel
theorem dX2_tryPairs_167 : decode cX2_tryPairs 167 = .ok (.iload 8, 2) := by decide +kernel
theorem dX2_tryPairs_169 : decode cX2_tryPairs 169 = .ok (.iload 9, 2) := by decide +kernel
theorem dX2_tryPairs_171 : decode cX2_tryPairs 171 = .ok (.iload 7, 2) := by decide +kernel
theorem dX2_tryPairs_173 : decode cX2_tryPairs 173 = .ok (.invokevirtual 67, 3) := by decide +kernel
theorem dX2_tryPairs_176 : decode cX2_tryPairs 176 = .ok (.istore 12, 2) := by decide +kernel
theorem dX2_tryPairs_178 : decode cX2_tryPairs 178 = .ok (.iload 10, 2) := by decide +kernel
theorem dX2_tryPairs_180 : decode cX2_tryPairs 180 = .ok (.bipush 7, 2) := by decide +kernel
theorem dX2_tryPairs_182 : decode cX2_tryPairs 182 = .ok (.ishr, 1) := by decide +kernel
theorem dX2_tryPairs_183 : decode cX2_tryPairs 183 = .ok (.iload 12, 2) := by decide +kernel
theorem dX2_tryPairs_185 : decode cX2_tryPairs 185 = .ok (.iconst (-1), 1) := by decide +kernel
theorem dX2_tryPairs_186 : decode cX2_tryPairs 186 = .ok (.ixor, 1) := by decide +kernel
theorem dX2_tryPairs_187 : decode cX2_tryPairs 187 = .ok (.iand, 1) := by decide +kernel
theorem dX2_tryPairs_188 : decode cX2_tryPairs 188 = .ok (.ifCond .eq 4, 3) := by decide +kernel
theorem dX2_tryPairs_191 : decode cX2_tryPairs 191 = .ok (.return_, 1) := by decide +kernel
theorem dX2_tryPairs_192 : decode cX2_tryPairs 192 = .ok (.aload_n 0, 1) := by decide +kernel
theorem dX2_tryPairs_193 : decode cX2_tryPairs 193 = .ok (.getfield 13, 3) := by decide +kernel
theorem dX2_tryPairs_196 : decode cX2_tryPairs 196 = .ok (.aload_n 0, 1) := by decide +kernel
theorem dX2_tryPairs_197 : decode cX2_tryPairs 197 = .ok (.getfield 31, 3) := by decide +kernel
theorem dX2_tryPairs_200 : decode cX2_tryPairs 200 = .ok (.aaload, 1) := by decide +kernel
theorem dX2_tryPairs_201 : decode cX2_tryPairs 201 = .ok (.astore 13, 2) := by decide +kernel
theorem dX2_tryPairs_203 : decode cX2_tryPairs 203 = .ok (.aload 13, 2) := by decide +kernel
theorem dX2_tryPairs_205 : decode cX2_tryPairs 205 = .ok (.iload 8, 2) := by decide +kernel
theorem dX2_tryPairs_207 : decode cX2_tryPairs 207 = .ok (.iload 9, 2) := by decide +kernel
theorem dX2_tryPairs_209 : decode cX2_tryPairs 209 = .ok (.iload 7, 2) := by decide +kernel
theorem dX2_tryPairs_211 : decode cX2_tryPairs 211 = .ok (.invokevirtual 71, 3) := by decide +kernel
theorem dX2_tryPairs_214 : decode cX2_tryPairs 214 = .ok (.aload 13, 2) := by decide +kernel
theorem dX2_tryPairs_216 : decode cX2_tryPairs 216 = .ok (.iload 11, 2) := by decide +kernel
theorem dX2_tryPairs_218 : decode cX2_tryPairs 218 = .ok (.putfield 75, 3) := by decide +kernel
theorem dX2_tryPairs_221 : decode cX2_tryPairs 221 = .ok (.aload 13, 2) := by decide +kernel
theorem dX2_tryPairs_223 : decode cX2_tryPairs 223 = .ok (.iload 12, 2) := by decide +kernel
theorem dX2_tryPairs_225 : decode cX2_tryPairs 225 = .ok (.putfield 78, 3) := by decide +kernel
theorem dX2_tryPairs_228 : decode cX2_tryPairs 228 = .ok (.aload_n 0, 1) := by decide +kernel
theorem dX2_tryPairs_229 : decode cX2_tryPairs 229 = .ok (.aload 13, 2) := by decide +kernel
theorem dX2_tryPairs_231 : decode cX2_tryPairs 231 = .ok (.invokevirtual 81, 3) := by decide +kernel
theorem dX2_tryPairs_234 : decode cX2_tryPairs 234 = .ok (.return_, 1) := by decide +kernel
theorem dX2_sortIn_0 : decode cX2_sortIn 0 = .ok (.aload_n 0, 1) := by decide +kernel
theorem dX2_sortIn_1 : decode cX2_sortIn 1 = .ok (.getfield 31, 3) := by decide +kernel
theorem dX2_sortIn_4 : decode cX2_sortIn 4 = .ok (.istore_n 2, 1) := by decide +kernel
theorem dX2_sortIn_5 : decode cX2_sortIn 5 = .ok (.iload_n 2, 1) := by decide +kernel
theorem dX2_sortIn_6 : decode cX2_sortIn 6 = .ok (.ifCond .le 24, 3) := by decide +kernel
theorem dX2_sortIn_9 : decode cX2_sortIn 9 = .ok (.aload_n 1, 1) := by decide +kernel
theorem dX2_sortIn_10 : decode cX2_sortIn 10 = .ok (.aload_n 0, 1) := by decide +kernel
theorem dX2_sortIn_11 : decode cX2_sortIn 11 = .ok (.getfield 13, 3) := by decide +kernel
theorem dX2_sortIn_14 : decode cX2_sortIn 14 = .ok (.iload_n 2, 1) := by decide +kernel
theorem dX2_sortIn_15 : decode cX2_sortIn 15 = .ok (.iconst 1, 1) := by decide +kernel
theorem dX2_sortIn_16 : decode cX2_sortIn 16 = .ok (.isub, 1) := by decide +kernel
theorem dX2_sortIn_17 : decode cX2_sortIn 17 = .ok (.aaload, 1) := by decide +kernel
theorem dX2_sortIn_18 : decode cX2_sortIn 18 = .ok (.invokevirtual 85, 3) := by decide +kernel
theorem dX2_sortIn_21 : decode cX2_sortIn 21 = .ok (.ifCond .ge 9, 3) := by decide +kernel
theorem dX2_sortIn_24 : decode cX2_sortIn 24 = .ok (.iinc 2 (-1), 3) := by decide +kernel
theorem dX2_sortIn_27 : decode cX2_sortIn 27 = .ok (.goto (-22), 3) := by decide +kernel
theorem dX2_sortIn_30 : decode cX2_sortIn 30 = .ok (.iload_n 2, 1) := by decide +kernel
theorem dX2_sortIn_31 : decode cX2_sortIn 31 = .ok (.ifCond .le 22, 3) := by decide +kernel
theorem dX2_sortIn_34 : decode cX2_sortIn 34 = .ok (.aload_n 1, 1) := by decide +kernel
theorem dX2_sortIn_35 : decode cX2_sortIn 35 = .ok (.aload_n 0, 1) := by decide +kernel
theorem dX2_sortIn_36 : decode cX2_sortIn 36 = .ok (.getfield 13, 3) := by decide +kernel
theorem dX2_sortIn_39 : decode cX2_sortIn 39 = .ok (.iload_n 2, 1) := by decide +kernel
theorem dX2_sortIn_40 : decode cX2_sortIn 40 = .ok (.iconst 1, 1) := by decide +kernel
theorem dX2_sortIn_41 : decode cX2_sortIn 41 = .ok (.isub, 1) := by decide +kernel
theorem dX2_sortIn_42 : decode cX2_sortIn 42 = .ok (.aaload, 1) := by decide +kernel
theorem dX2_sortIn_43 : decode cX2_sortIn 43 = .ok (.invokevirtual 85, 3) := by decide +kernel
theorem dX2_sortIn_46 : decode cX2_sortIn 46 = .ok (.ifCond .ne 7, 3) := by decide +kernel
theorem dX2_sortIn_49 : decode cX2_sortIn 49 = .ok (.iconst 1, 1) := by decide +kernel
theorem dX2_sortIn_50 : decode cX2_sortIn 50 = .ok (.goto 4, 3) := by decide +kernel
theorem dX2_sortIn_53 : decode cX2_sortIn 53 = .ok (.iconst 0, 1) := by decide +kernel
theorem dX2_sortIn_54 : decode cX2_sortIn 54 = .ok (.istore_n 3, 1) := by decide +kernel
theorem dX2_sortIn_55 : decode cX2_sortIn 55 = .ok (.iload_n 3, 1) := by decide +kernel
theorem dX2_sortIn_56 : decode cX2_sortIn 56 = .ok (.ifCond .ne 12, 3) := by decide +kernel
theorem dX2_sortIn_59 : decode cX2_sortIn 59 = .ok (.aload_n 0, 1) := by decide +kernel
theorem dX2_sortIn_60 : decode cX2_sortIn 60 = .ok (.getfield 31, 3) := by decide +kernel
theorem dX2_sortIn_63 : decode cX2_sortIn 63 = .ok (.bipush 93, 2) := by decide +kernel
theorem dX2_sortIn_65 : decode cX2_sortIn 65 = .ok (.if_icmp .lt 4, 3) := by decide +kernel
theorem dX2_sortIn_68 : decode cX2_sortIn 68 = .ok (.return_, 1) := by decide +kernel
theorem dX2_sortIn_69 : decode cX2_sortIn 69 = .ok (.aload_n 0, 1) := by decide +kernel
theorem dX2_sortIn_70 : decode cX2_sortIn 70 = .ok (.getfield 31, 3) := by decide +kernel
theorem dX2_sortIn_73 : decode cX2_sortIn 73 = .ok (.istore 4, 2) := by decide +kernel
theorem dX2_sortIn_75 : decode cX2_sortIn 75 = .ok (.iload 4, 2) := by decide +kernel
theorem dX2_sortIn_77 : decode cX2_sortIn 77 = .ok (.iload_n 2, 1) := by decide +kernel
theorem dX2_sortIn_78 : decode cX2_sortIn 78 = .ok (.if_icmp .le 25, 3) := by decide +kernel
theorem dX2_sortIn_81 : decode cX2_sortIn 81 = .ok (.aload_n 0, 1) := by decide +kernel
theorem dX2_sortIn_82 : decode cX2_sortIn 82 = .ok (.getfield 13, 3) := by decide +kernel
theorem dX2_sortIn_85 : decode cX2_sortIn 85 = .ok (.iload 4, 2) := by decide +kernel
theorem dX2_sortIn_87 : decode cX2_sortIn 87 = .ok (.aload_n 0, 1) := by decide +kernel
theorem dX2_sortIn_88 : decode cX2_sortIn 88 = .ok (.getfield 13, 3) := by decide +kernel
theorem dX2_sortIn_91 : decode cX2_sortIn 91 = .ok (.iload 4, 2) := by decide +kernel
theorem dX2_sortIn_93 : decode cX2_sortIn 93 = .ok (.iconst 1, 1) := by decide +kernel
theorem dX2_sortIn_94 : decode cX2_sortIn 94 = .ok (.isub, 1) := by decide +kernel
theorem dX2_sortIn_95 : decode cX2_sortIn 95 = .ok (.aaload, 1) := by decide +kernel
theorem dX2_sortIn_96 : decode cX2_sortIn 96 = .ok (.aastore, 1) := by decide +kernel
theorem dX2_sortIn_97 : decode cX2_sortIn 97 = .ok (.iinc 4 (-1), 3) := by decide +kernel
theorem dX2_sortIn_100 : decode cX2_sortIn 100 = .ok (.goto (-25), 3) := by decide +kernel
theorem dX2_sortIn_103 : decode cX2_sortIn 103 = .ok (.aload_n 0, 1) := by decide +kernel
theorem dX2_sortIn_104 : decode cX2_sortIn 104 = .ok (.getfield 13, 3) := by decide +kernel
theorem dX2_sortIn_107 : decode cX2_sortIn 107 = .ok (.iload_n 2, 1) := by decide +kernel
theorem dX2_sortIn_108 : decode cX2_sortIn 108 = .ok (.aload_n 1, 1) := by decide +kernel
theorem dX2_sortIn_109 : decode cX2_sortIn 109 = .ok (.aastore, 1) := by decide +kernel
theorem dX2_sortIn_110 : decode cX2_sortIn 110 = .ok (.aload_n 0, 1) := by decide +kernel
theorem dX2_sortIn_111 : decode cX2_sortIn 111 = .ok (.dup, 1) := by decide +kernel
theorem dX2_sortIn_112 : decode cX2_sortIn 112 = .ok (.getfield 31, 3) := by decide +kernel
theorem dX2_sortIn_115 : decode cX2_sortIn 115 = .ok (.iconst 1, 1) := by decide +kernel
theorem dX2_sortIn_116 : decode cX2_sortIn 116 = .ok (.iadd, 1) := by decide +kernel
theorem dX2_sortIn_117 : decode cX2_sortIn 117 = .ok (.putfield 31, 3) := by decide +kernel
theorem dX2_sortIn_120 : decode cX2_sortIn 120 = .ok (.return_, 1) := by decide +kernel
theorem dX3_init_0 : decode cX3_init 0 = .ok (.aload_n 0, 1) := by decide +kernel
theorem dX3_init_1 : decode cX3_init 1 = .ok (.invokespecial 3, 3) := by decide +kernel
theorem dX3_init_4 : decode cX3_init 4 = .ok (.aload_n 0, 1) := by decide +kernel
theorem dX3_init_5 : decode cX3_init 5 = .ok (.sipush 128, 3) := by decide +kernel
theorem dX3_init_8 : decode cX3_init 8 = .ok (.newarray .int, 2) := by decide +kernel
theorem dX3_init_10 : decode cX3_init 10 = .ok (.putfield 11, 3) := by decide +kernel
theorem dX3_init_13 : decode cX3_init 13 = .ok (.aload_n 0, 1) := by decide +kernel
theorem dX3_init_14 : decode cX3_init 14 = .ok (.sipush 128, 3) := by decide +kernel
theorem dX3_init_17 : decode cX3_init 17 = .ok (.newarray .int, 2) := by decide +kernel
theorem dX3_init_19 : decode cX3_init 19 = .ok (.putfield 15, 3) := by decide +kernel
theorem dX3_init_22 : decode cX3_init 22 = .ok (.aload_n 0, 1) := by decide +kernel
theorem dX3_init_23 : decode cX3_init 23 = .ok (.sipush 256, 3) := by decide +kernel
theorem dX3_init_26 : decode cX3_init 26 = .ok (.newarray .int, 2) := by decide +kernel
theorem dX3_init_28 : decode cX3_init 28 = .ok (.putfield 18, 3) := by decide +kernel
theorem dX3_init_31 : decode cX3_init 31 = .ok (.return_, 1) := by decide +kernel
theorem dX3_gather_0 : decode cX3_gather 0 = .ok (.aload_n 0, 1) := by decide +kernel
theorem dX3_gather_1 : decode cX3_gather 1 = .ok (.iconst 0, 1) := by decide +kernel
theorem dX3_gather_2 : decode cX3_gather 2 = .ok (.putfield 21, 3) := by decide +kernel
theorem dX3_gather_5 : decode cX3_gather 5 = .ok (.iconst 0, 1) := by decide +kernel
theorem dX3_gather_6 : decode cX3_gather 6 = .ok (.istore_n 3, 1) := by decide +kernel
theorem dX3_gather_7 : decode cX3_gather 7 = .ok (.iload_n 3, 1) := by decide +kernel
theorem dX3_gather_8 : decode cX3_gather 8 = .ok (.aload_n 1, 1) := by decide +kernel
theorem dX3_gather_9 : decode cX3_gather 9 = .ok (.getfield 25, 3) := by decide +kernel
theorem dX3_gather_12 : decode cX3_gather 12 = .ok (.if_icmp .ge 33, 3) := by decide +kernel
theorem dX3_gather_15 : decode cX3_gather 15 = .ok (.iload_n 2, 1) := by decide +kernel
theorem dX3_gather_16 : decode cX3_gather 16 = .ok (.iload_n 3, 1) := by decide +kernel
theorem dX3_gather_17 : decode cX3_gather 17 = .ok (.ishr, 1) := by decide +kernel
theorem dX3_gather_18 : decode cX3_gather 18 = .ok (.iconst 1, 1) := by decide +kernel
theorem dX3_gather_19 : decode cX3_gather 19 = .ok (.iand, 1) := by decide +kernel
theorem dX3_gather_20 : decode cX3_gather 20 = .ok (.ifCond .eq 19, 3) := by decide +kernel
theorem dX3_gather_23 : decode cX3_gather 23 = .ok (.aload_n 0, 1) := by decide +kernel
theorem dX3_gather_24 : decode cX3_gather 24 = .ok (.aload_n 1, 1) := by decide +kernel
theorem dX3_gather_25 : decode cX3_gather 25 = .ok (.getfield 28, 3) := by decide +kernel
theorem dX3_gather_28 : decode cX3_gather 28 = .ok (.iload_n 3, 1) := by decide +kernel
theorem dX3_gather_29 : decode cX3_gather 29 = .ok (.iaload, 1) := by decide +kernel
theorem dX3_gather_30 : decode cX3_gather 30 = .ok (.aload_n 1, 1) := by decide +kernel
theorem dX3_gather_31 : decode cX3_gather 31 = .ok (.getfield 31, 3) := by decide +kernel
theorem dX3_gather_34 : decode cX3_gather 34 = .ok (.iload_n 3, 1) := by decide +kernel
theorem dX3_gather_35 : decode cX3_gather 35 = .ok (.iaload, 1) := by decide +kernel
theorem dX3_gather_36 : decode cX3_gather 36 = .ok (.invokevirtual 34, 3) := by decide +kernel
theorem dX3_gather_39 : decode cX3_gather 39 = .ok (.iinc 3 1, 3) := by decide +kernel
theorem dX3_gather_42 : decode cX3_gather 42 = .ok (.goto (-35), 3) := by decide +kernel
theorem dX3_gather_45 : decode cX3_gather 45 = .ok (.aload_n 0, 1) := by decide +kernel
theorem dX3_gather_46 : decode cX3_gather 46 = .ok (.invokevirtual 38, 3) := by decide +kernel
theorem dX3_gather_49 : decode cX3_gather 49 = .ok (.areturn, 1) := by decide +kernel
theorem dX3_gatherSums_0 : decode cX3_gatherSums 0 = .ok (.aload_n 0, 1) := by decide +kernel
theorem dX3_gatherSums_1 : decode cX3_gatherSums 1 = .ok (.iconst 0, 1) := by decide +kernel
theorem dX3_gatherSums_2 : decode cX3_gatherSums 2 = .ok (.putfield 21, 3) := by decide +kernel
theorem dX3_gatherSums_5 : decode cX3_gatherSums 5 = .ok (.iconst 0, 1) := by decide +kernel
theorem dX3_gatherSums_6 : decode cX3_gatherSums 6 = .ok (.istore 5, 2) := by decide +kernel
theorem dX3_gatherSums_8 : decode cX3_gatherSums 8 = .ok (.iload 5, 2) := by decide +kernel
theorem dX3_gatherSums_10 : decode cX3_gatherSums 10 = .ok (.aload_n 1, 1) := by decide +kernel
theorem dX3_gatherSums_11 : decode cX3_gatherSums 11 = .ok (.getfield 25, 3) := by decide +kernel
theorem dX3_gatherSums_14 : decode cX3_gatherSums 14 = .ok (.if_icmp .ge 80, 3) := by decide +kernel
theorem dX3_gatherSums_17 : decode cX3_gatherSums 17 = .ok (.iconst 0, 1) := by decide +kernel
theorem dX3_gatherSums_18 : decode cX3_gatherSums 18 = .ok (.istore 6, 2) := by decide +kernel
theorem dX3_gatherSums_20 : decode cX3_gatherSums 20 = .ok (.iload 6, 2) := by decide +kernel
theorem dX3_gatherSums_22 : decode cX3_gatherSums 22 = .ok (.aload_n 3, 1) := by decide +kernel
theorem dX3_gatherSums_23 : decode cX3_gatherSums 23 = .ok (.getfield 25, 3) := by decide +kernel
theorem dX3_gatherSums_26 : decode cX3_gatherSums 26 = .ok (.if_icmp .ge 62, 3) := by decide +kernel
theorem dX3_gatherSums_29 : decode cX3_gatherSums 29 = .ok (.iload_n 2, 1) := by decide +kernel
theorem dX3_gatherSums_30 : decode cX3_gatherSums 30 = .ok (.iload 5, 2) := by decide +kernel
theorem dX3_gatherSums_32 : decode cX3_gatherSums 32 = .ok (.ishr, 1) := by decide +kernel
theorem dX3_gatherSums_33 : decode cX3_gatherSums 33 = .ok (.iconst 1, 1) := by decide +kernel
theorem dX3_gatherSums_34 : decode cX3_gatherSums 34 = .ok (.iand, 1) := by decide +kernel
theorem dX3_gatherSums_35 : decode cX3_gatherSums 35 = .ok (.ifCond .eq 47, 3) := by decide +kernel
theorem dX3_gatherSums_38 : decode cX3_gatherSums 38 = .ok (.iload 4, 2) := by decide +kernel
theorem dX3_gatherSums_40 : decode cX3_gatherSums 40 = .ok (.iload 6, 2) := by decide +kernel
theorem dX3_gatherSums_42 : decode cX3_gatherSums 42 = .ok (.ishr, 1) := by decide +kernel
theorem dX3_gatherSums_43 : decode cX3_gatherSums 43 = .ok (.iconst 1, 1) := by decide +kernel
theorem dX3_gatherSums_44 : decode cX3_gatherSums 44 = .ok (.iand, 1) := by decide +kernel
theorem dX3_gatherSums_45 : decode cX3_gatherSums 45 = .ok (.ifCond .eq 37, 3) := by decide +kernel
theorem dX3_gatherSums_48 : decode cX3_gatherSums 48 = .ok (.aload_n 0, 1) := by decide +kernel
theorem dX3_gatherSums_49 : decode cX3_gatherSums 49 = .ok (.aload_n 1, 1) := by decide +kernel
theorem dX3_gatherSums_50 : decode cX3_gatherSums 50 = .ok (.getfield 28, 3) := by decide +kernel
theorem dX3_gatherSums_53 : decode cX3_gatherSums 53 = .ok (.iload 5, 2) := by decide +kernel
theorem dX3_gatherSums_55 : decode cX3_gatherSums 55 = .ok (.iaload, 1) := by decide +kernel
theorem dX3_gatherSums_56 : decode cX3_gatherSums 56 = .ok (.aload_n 3, 1) := by decide +kernel
theorem dX3_gatherSums_57 : decode cX3_gatherSums 57 = .ok (.getfield 28, 3) := by decide +kernel
theorem dX3_gatherSums_60 : decode cX3_gatherSums 60 = .ok (.iload 6, 2) := by decide +kernel
theorem dX3_gatherSums_62 : decode cX3_gatherSums 62 = .ok (.iaload, 1) := by decide +kernel
theorem dX3_gatherSums_63 : decode cX3_gatherSums 63 = .ok (.iadd, 1) := by decide +kernel
theorem dX3_gatherSums_64 : decode cX3_gatherSums 64 = .ok (.aload_n 1, 1) := by decide +kernel
theorem dX3_gatherSums_65 : decode cX3_gatherSums 65 = .ok (.getfield 31, 3) := by decide +kernel
theorem dX3_gatherSums_68 : decode cX3_gatherSums 68 = .ok (.iload 5, 2) := by decide +kernel
theorem dX3_gatherSums_70 : decode cX3_gatherSums 70 = .ok (.iaload, 1) := by decide +kernel
theorem dX3_gatherSums_71 : decode cX3_gatherSums 71 = .ok (.aload_n 3, 1) := by decide +kernel
theorem dX3_gatherSums_72 : decode cX3_gatherSums 72 = .ok (.getfield 31, 3) := by decide +kernel
theorem dX3_gatherSums_75 : decode cX3_gatherSums 75 = .ok (.iload 6, 2) := by decide +kernel
theorem dX3_gatherSums_77 : decode cX3_gatherSums 77 = .ok (.iaload, 1) := by decide +kernel
theorem dX3_gatherSums_78 : decode cX3_gatherSums 78 = .ok (.iadd, 1) := by decide +kernel
theorem dX3_gatherSums_79 : decode cX3_gatherSums 79 = .ok (.invokevirtual 34, 3) := by decide +kernel
theorem dX3_gatherSums_82 : decode cX3_gatherSums 82 = .ok (.iinc 6 1, 3) := by decide +kernel
theorem dX3_gatherSums_85 : decode cX3_gatherSums 85 = .ok (.goto (-65), 3) := by decide +kernel
theorem dX3_gatherSums_88 : decode cX3_gatherSums 88 = .ok (.iinc 5 1, 3) := by decide +kernel
theorem dX3_gatherSums_91 : decode cX3_gatherSums 91 = .ok (.goto (-83), 3) := by decide +kernel
theorem dX3_gatherSums_94 : decode cX3_gatherSums 94 = .ok (.aload_n 0, 1) := by decide +kernel
theorem dX3_gatherSums_95 : decode cX3_gatherSums 95 = .ok (.invokevirtual 38, 3) := by decide +kernel
theorem dX3_gatherSums_98 : decode cX3_gatherSums 98 = .ok (.areturn, 1) := by decide +kernel
theorem dX3_gatherFan_0 : decode cX3_gatherFan 0 = .ok (.aload_n 0, 1) := by decide +kernel
theorem dX3_gatherFan_1 : decode cX3_gatherFan 1 = .ok (.iconst 0, 1) := by decide +kernel
theorem dX3_gatherFan_2 : decode cX3_gatherFan 2 = .ok (.putfield 21, 3) := by decide +kernel
theorem dX3_gatherFan_5 : decode cX3_gatherFan 5 = .ok (.iconst 0, 1) := by decide +kernel
theorem dX3_gatherFan_6 : decode cX3_gatherFan 6 = .ok (.istore_n 2, 1) := by decide +kernel
theorem dX3_gatherFan_7 : decode cX3_gatherFan 7 = .ok (.iload_n 2, 1) := by decide +kernel
theorem dX3_gatherFan_8 : decode cX3_gatherFan 8 = .ok (.aload_n 1, 1) := by decide +kernel
theorem dX3_gatherFan_9 : decode cX3_gatherFan 9 = .ok (.invokevirtual 42, 3) := by decide +kernel
theorem dX3_gatherFan_12 : decode cX3_gatherFan 12 = .ok (.if_icmp .gt 75, 3) := by decide +kernel
theorem dX3_gatherFan_15 : decode cX3_gatherFan 15 = .ok (.iconst 0, 1) := by decide +kernel
theorem dX3_gatherFan_16 : decode cX3_gatherFan 16 = .ok (.istore_n 3, 1) := by decide +kernel
theorem dX3_gatherFan_17 : decode cX3_gatherFan 17 = .ok (.iconst 0, 1) := by decide +kernel
theorem dX3_gatherFan_18 : decode cX3_gatherFan 18 = .ok (.istore 4, 2) := by decide +kernel
theorem dX3_gatherFan_20 : decode cX3_gatherFan 20 = .ok (.iconst 0, 1) := by decide +kernel
theorem dX3_gatherFan_21 : decode cX3_gatherFan 21 = .ok (.istore 5, 2) := by decide +kernel
theorem dX3_gatherFan_23 : decode cX3_gatherFan 23 = .ok (.iload 5, 2) := by decide +kernel
theorem dX3_gatherFan_25 : decode cX3_gatherFan 25 = .ok (.aload_n 1, 1) := by decide +kernel
theorem dX3_gatherFan_26 : decode cX3_gatherFan 26 = .ok (.getfield 25, 3) := by decide +kernel
theorem dX3_gatherFan_29 : decode cX3_gatherFan 29 = .ok (.if_icmp .ge 45, 3) := by decide +kernel
theorem dX3_gatherFan_32 : decode cX3_gatherFan 32 = .ok (.iload_n 3, 1) := by decide +kernel
theorem dX3_gatherFan_33 : decode cX3_gatherFan 33 = .ok (.iload_n 2, 1) := by decide +kernel
theorem dX3_gatherFan_34 : decode cX3_gatherFan 34 = .ok (.iload 5, 2) := by decide +kernel
theorem dX3_gatherFan_36 : decode cX3_gatherFan 36 = .ok (.ishr, 1) := by decide +kernel
theorem dX3_gatherFan_37 : decode cX3_gatherFan 37 = .ok (.iconst 1, 1) := by decide +kernel
theorem dX3_gatherFan_38 : decode cX3_gatherFan 38 = .ok (.iand, 1) := by decide +kernel
theorem dX3_gatherFan_39 : decode cX3_gatherFan 39 = .ok (.aload_n 1, 1) := by decide +kernel
theorem dX3_gatherFan_40 : decode cX3_gatherFan 40 = .ok (.getfield 28, 3) := by decide +kernel
theorem dX3_gatherFan_43 : decode cX3_gatherFan 43 = .ok (.iload 5, 2) := by decide +kernel
theorem dX3_gatherFan_45 : decode cX3_gatherFan 45 = .ok (.iaload, 1) := by decide +kernel
theorem dX3_gatherFan_46 : decode cX3_gatherFan 46 = .ok (.imul, 1) := by decide +kernel
theorem dX3_gatherFan_47 : decode cX3_gatherFan 47 = .ok (.iadd, 1) := by decide +kernel
theorem dX3_gatherFan_48 : decode cX3_gatherFan 48 = .ok (.istore_n 3, 1) := by decide +kernel
theorem dX3_gatherFan_49 : decode cX3_gatherFan 49 = .ok (.iload 4, 2) := by decide +kernel
theorem dX3_gatherFan_51 : decode cX3_gatherFan 51 = .ok (.iload_n 2, 1) := by decide +kernel
theorem dX3_gatherFan_52 : decode cX3_gatherFan 52 = .ok (.iload 5, 2) := by decide +kernel
theorem dX3_gatherFan_54 : decode cX3_gatherFan 54 = .ok (.ishr, 1) := by decide +kernel
theorem dX3_gatherFan_55 : decode cX3_gatherFan 55 = .ok (.iconst 1, 1) := by decide +kernel
theorem dX3_gatherFan_56 : decode cX3_gatherFan 56 = .ok (.iand, 1) := by decide +kernel
theorem dX3_gatherFan_57 : decode cX3_gatherFan 57 = .ok (.aload_n 1, 1) := by decide +kernel
theorem dX3_gatherFan_58 : decode cX3_gatherFan 58 = .ok (.getfield 31, 3) := by decide +kernel
theorem dX3_gatherFan_61 : decode cX3_gatherFan 61 = .ok (.iload 5, 2) := by decide +kernel
theorem dX3_gatherFan_63 : decode cX3_gatherFan 63 = .ok (.iaload, 1) := by decide +kernel

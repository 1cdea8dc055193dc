theorem dX5_clear_0 : decode cX5_clear 0 = .ok (.iload_n 1, 1) := by decide +kernel
theorem dX5_clear_1 : decode cX5_clear 1 = .ok (.invokestatic 52, 3) := by decide +kernel
theorem dX5_clear_4 : decode cX5_clear 4 = .ok (.ifCond .ne 5, 3) := by decide +kernel
theorem dX5_clear_7 : decode cX5_clear 7 = .ok (.iconst (-1), 1) := by decide +kernel
theorem dX5_clear_8 : decode cX5_clear 8 = .ok (.ireturn, 1) := by decide +kernel
theorem dX5_clear_9 : decode cX5_clear 9 = .ok (.aload_n 0, 1) := by decide +kernel
theorem dX5_clear_10 : decode cX5_clear 10 = .ok (.iload_n 1, 1) := by decide +kernel
theorem dX5_clear_11 : decode cX5_clear 11 = .ok (.invokevirtual 56, 3) := by decide +kernel
theorem dX5_clear_14 : decode cX5_clear 14 = .ok (.istore_n 2, 1) := by decide +kernel
theorem dX5_clear_15 : decode cX5_clear 15 = .ok (.aload_n 0, 1) := by decide +kernel
theorem dX5_clear_16 : decode cX5_clear 16 = .ok (.getfield 7, 3) := by decide +kernel
theorem dX5_clear_19 : decode cX5_clear 19 = .ok (.iconst 0, 1) := by decide +kernel
theorem dX5_clear_20 : decode cX5_clear 20 = .ok (.iload_n 1, 1) := by decide +kernel
theorem dX5_clear_21 : decode cX5_clear 21 = .ok (.iadd, 1) := by decide +kernel
theorem dX5_clear_22 : decode cX5_clear 22 = .ok (.iconst 0, 1) := by decide +kernel
theorem dX5_clear_23 : decode cX5_clear 23 = .ok (.iastore, 1) := by decide +kernel
theorem dX5_clear_24 : decode cX5_clear 24 = .ok (.iload_n 2, 1) := by decide +kernel
theorem dX5_clear_25 : decode cX5_clear 25 = .ok (.ireturn, 1) := by decide +kernel
theorem dX5_point_0 : decode cX5_point 0 = .ok (.iload_n 1, 1) := by decide +kernel
theorem dX5_point_1 : decode cX5_point 1 = .ok (.invokestatic 52, 3) := by decide +kernel
theorem dX5_point_4 : decode cX5_point 4 = .ok (.ifCond .ne 5, 3) := by decide +kernel
theorem dX5_point_7 : decode cX5_point 7 = .ok (.iconst (-1), 1) := by decide +kernel
theorem dX5_point_8 : decode cX5_point 8 = .ok (.ireturn, 1) := by decide +kernel
theorem dX5_point_9 : decode cX5_point 9 = .ok (.iload_n 3, 1) := by decide +kernel
theorem dX5_point_10 : decode cX5_point 10 = .ok (.iconst 0, 1) := by decide +kernel
theorem dX5_point_11 : decode cX5_point 11 = .ok (.iconst 2, 1) := by decide +kernel
theorem dX5_point_12 : decode cX5_point 12 = .ok (.invokestatic 44, 3) := by decide +kernel
theorem dX5_point_15 : decode cX5_point 15 = .ok (.ifCond .ne 6, 3) := by decide +kernel
theorem dX5_point_18 : decode cX5_point 18 = .ok (.bipush (-2), 2) := by decide +kernel
theorem dX5_point_20 : decode cX5_point 20 = .ok (.ireturn, 1) := by decide +kernel
theorem dX5_point_21 : decode cX5_point 21 = .ok (.iload_n 2, 1) := by decide +kernel
theorem dX5_point_22 : decode cX5_point 22 = .ok (.iconst 0, 1) := by decide +kernel
theorem dX5_point_23 : decode cX5_point 23 = .ok (.aload_n 0, 1) := by decide +kernel
theorem dX5_point_24 : decode cX5_point 24 = .ok (.iload_n 1, 1) := by decide +kernel
theorem dX5_point_25 : decode cX5_point 25 = .ok (.invokevirtual 56, 3) := by decide +kernel
theorem dX5_point_28 : decode cX5_point 28 = .ok (.iconst 1, 1) := by decide +kernel
theorem dX5_point_29 : decode cX5_point 29 = .ok (.isub, 1) := by decide +kernel
theorem dX5_point_30 : decode cX5_point 30 = .ok (.invokestatic 44, 3) := by decide +kernel
theorem dX5_point_33 : decode cX5_point 33 = .ok (.ifCond .eq 13, 3) := by decide +kernel
theorem dX5_point_36 : decode cX5_point 36 = .ok (.aload_n 0, 1) := by decide +kernel
theorem dX5_point_37 : decode cX5_point 37 = .ok (.iload_n 1, 1) := by decide +kernel
theorem dX5_point_38 : decode cX5_point 38 = .ok (.iload_n 2, 1) := by decide +kernel
theorem dX5_point_39 : decode cX5_point 39 = .ok (.iload_n 3, 1) := by decide +kernel
theorem dX5_point_40 : decode cX5_point 40 = .ok (.invokevirtual 60, 3) := by decide +kernel
theorem dX5_point_43 : decode cX5_point 43 = .ok (.goto 5, 3) := by decide +kernel
theorem dX5_point_46 : decode cX5_point 46 = .ok (.bipush (-6), 2) := by decide +kernel
theorem dX5_point_48 : decode cX5_point 48 = .ok (.ireturn, 1) := by decide +kernel
theorem dX5_addPoint_0 : decode cX5_addPoint 0 = .ok (.iconst 0, 1) := by decide +kernel
theorem dX5_addPoint_1 : decode cX5_addPoint 1 = .ok (.istore_n 3, 1) := by decide +kernel
theorem dX5_addPoint_2 : decode cX5_addPoint 2 = .ok (.iload_n 3, 1) := by decide +kernel
theorem dX5_addPoint_3 : decode cX5_addPoint 3 = .ok (.aload_n 0, 1) := by decide +kernel
theorem dX5_addPoint_4 : decode cX5_addPoint 4 = .ok (.getfield 63, 3) := by decide +kernel
theorem dX5_addPoint_7 : decode cX5_addPoint 7 = .ok (.if_icmp .ge 30, 3) := by decide +kernel
theorem dX5_addPoint_10 : decode cX5_addPoint 10 = .ok (.aload_n 0, 1) := by decide +kernel
theorem dX5_addPoint_11 : decode cX5_addPoint 11 = .ok (.getfield 20, 3) := by decide +kernel
theorem dX5_addPoint_14 : decode cX5_addPoint 14 = .ok (.iload_n 3, 1) := by decide +kernel
theorem dX5_addPoint_15 : decode cX5_addPoint 15 = .ok (.iaload, 1) := by decide +kernel
theorem dX5_addPoint_16 : decode cX5_addPoint 16 = .ok (.iload_n 1, 1) := by decide +kernel
theorem dX5_addPoint_17 : decode cX5_addPoint 17 = .ok (.if_icmp .ne 14, 3) := by decide +kernel
theorem dX5_addPoint_20 : decode cX5_addPoint 20 = .ok (.aload_n 0, 1) := by decide +kernel
theorem dX5_addPoint_21 : decode cX5_addPoint 21 = .ok (.getfield 23, 3) := by decide +kernel
theorem dX5_addPoint_24 : decode cX5_addPoint 24 = .ok (.iload_n 3, 1) := by decide +kernel
theorem dX5_addPoint_25 : decode cX5_addPoint 25 = .ok (.iaload, 1) := by decide +kernel
theorem dX5_addPoint_26 : decode cX5_addPoint 26 = .ok (.iload_n 2, 1) := by decide +kernel
theorem dX5_addPoint_27 : decode cX5_addPoint 27 = .ok (.if_icmp .ne 4, 3) := by decide +kernel
theorem dX5_addPoint_30 : decode cX5_addPoint 30 = .ok (.return_, 1) := by decide +kernel
theorem dX5_addPoint_31 : decode cX5_addPoint 31 = .ok (.iinc 3 1, 3) := by decide +kernel
theorem dX5_addPoint_34 : decode cX5_addPoint 34 = .ok (.goto (-32), 3) := by decide +kernel
theorem dX5_addPoint_37 : decode cX5_addPoint 37 = .ok (.aload_n 0, 1) := by decide +kernel
theorem dX5_addPoint_38 : decode cX5_addPoint 38 = .ok (.getfield 20, 3) := by decide +kernel
theorem dX5_addPoint_41 : decode cX5_addPoint 41 = .ok (.aload_n 0, 1) := by decide +kernel
theorem dX5_addPoint_42 : decode cX5_addPoint 42 = .ok (.getfield 63, 3) := by decide +kernel
theorem dX5_addPoint_45 : decode cX5_addPoint 45 = .ok (.iload_n 1, 1) := by decide +kernel
theorem dX5_addPoint_46 : decode cX5_addPoint 46 = .ok (.iastore, 1) := by decide +kernel
theorem dX5_addPoint_47 : decode cX5_addPoint 47 = .ok (.aload_n 0, 1) := by decide +kernel
theorem dX5_addPoint_48 : decode cX5_addPoint 48 = .ok (.getfield 23, 3) := by decide +kernel
theorem dX5_addPoint_51 : decode cX5_addPoint 51 = .ok (.aload_n 0, 1) := by decide +kernel
theorem dX5_addPoint_52 : decode cX5_addPoint 52 = .ok (.getfield 63, 3) := by decide +kernel
theorem dX5_addPoint_55 : decode cX5_addPoint 55 = .ok (.iload_n 2, 1) := by decide +kernel
theorem dX5_addPoint_56 : decode cX5_addPoint 56 = .ok (.iastore, 1) := by decide +kernel
theorem dX5_addPoint_57 : decode cX5_addPoint 57 = .ok (.aload_n 0, 1) := by decide +kernel
theorem dX5_addPoint_58 : decode cX5_addPoint 58 = .ok (.dup, 1) := by decide +kernel
theorem dX5_addPoint_59 : decode cX5_addPoint 59 = .ok (.getfield 63, 3) := by decide +kernel
theorem dX5_addPoint_62 : decode cX5_addPoint 62 = .ok (.iconst 1, 1) := by decide +kernel
theorem dX5_addPoint_63 : decode cX5_addPoint 63 = .ok (.iadd, 1) := by decide +kernel
theorem dX5_addPoint_64 : decode cX5_addPoint 64 = .ok (.putfield 63, 3) := by decide +kernel
theorem dX5_addPoint_67 : decode cX5_addPoint 67 = .ok (.return_, 1) := by decide +kernel
theorem dX5_turn_0 : decode cX5_turn 0 = .ok (.aload_n 0, 1) := by decide +kernel
theorem dX5_turn_1 : decode cX5_turn 1 = .ok (.getfield 20, 3) := by decide +kernel
theorem dX5_turn_4 : decode cX5_turn 4 = .ok (.iload_n 2, 1) := by decide +kernel
theorem dX5_turn_5 : decode cX5_turn 5 = .ok (.iaload, 1) := by decide +kernel
theorem dX5_turn_6 : decode cX5_turn 6 = .ok (.aload_n 0, 1) := by decide +kernel
theorem dX5_turn_7 : decode cX5_turn 7 = .ok (.getfield 20, 3) := by decide +kernel
theorem dX5_turn_10 : decode cX5_turn 10 = .ok (.iload_n 1, 1) := by decide +kernel
theorem dX5_turn_11 : decode cX5_turn 11 = .ok (.iaload, 1) := by decide +kernel
theorem dX5_turn_12 : decode cX5_turn 12 = .ok (.isub, 1) := by decide +kernel
theorem dX5_turn_13 : decode cX5_turn 13 = .ok (.aload_n 0, 1) := by decide +kernel
theorem dX5_turn_14 : decode cX5_turn 14 = .ok (.getfield 23, 3) := by decide +kernel
theorem dX5_turn_17 : decode cX5_turn 17 = .ok (.iload_n 3, 1) := by decide +kernel
theorem dX5_turn_18 : decode cX5_turn 18 = .ok (.iaload, 1) := by decide +kernel
theorem dX5_turn_19 : decode cX5_turn 19 = .ok (.aload_n 0, 1) := by decide +kernel
theorem dX5_turn_20 : decode cX5_turn 20 = .ok (.getfield 23, 3) := by decide +kernel
theorem dX5_turn_23 : decode cX5_turn 23 = .ok (.iload_n 1, 1) := by decide +kernel
theorem dX5_turn_24 : decode cX5_turn 24 = .ok (.iaload, 1) := by decide +kernel
theorem dX5_turn_25 : decode cX5_turn 25 = .ok (.isub, 1) := by decide +kernel
theorem dX5_turn_26 : decode cX5_turn 26 = .ok (.imul, 1) := by decide +kernel
theorem dX5_turn_27 : decode cX5_turn 27 = .ok (.aload_n 0, 1) := by decide +kernel
theorem dX5_turn_28 : decode cX5_turn 28 = .ok (.getfield 23, 3) := by decide +kernel
theorem dX5_turn_31 : decode cX5_turn 31 = .ok (.iload_n 2, 1) := by decide +kernel
theorem dX5_turn_32 : decode cX5_turn 32 = .ok (.iaload, 1) := by decide +kernel
theorem dX5_turn_33 : decode cX5_turn 33 = .ok (.aload_n 0, 1) := by decide +kernel
theorem dX5_turn_34 : decode cX5_turn 34 = .ok (.getfield 23, 3) := by decide +kernel
theorem dX5_turn_37 : decode cX5_turn 37 = .ok (.iload_n 1, 1) := by decide +kernel
theorem dX5_turn_38 : decode cX5_turn 38 = .ok (.iaload, 1) := by decide +kernel
theorem dX5_turn_39 : decode cX5_turn 39 = .ok (.isub, 1) := by decide +kernel
theorem dX5_turn_40 : decode cX5_turn 40 = .ok (.aload_n 0, 1) := by decide +kernel
theorem dX5_turn_41 : decode cX5_turn 41 = .ok (.getfield 20, 3) := by decide +kernel
theorem dX5_turn_44 : decode cX5_turn 44 = .ok (.iload_n 3, 1) := by decide +kernel
theorem dX5_turn_45 : decode cX5_turn 45 = .ok (.iaload, 1) := by decide +kernel
theorem dX5_turn_46 : decode cX5_turn 46 = .ok (.aload_n 0, 1) := by decide +kernel
theorem dX5_turn_47 : decode cX5_turn 47 = .ok (.getfield 20, 3) := by decide +kernel
theorem dX5_turn_50 : decode cX5_turn 50 = .ok (.iload_n 1, 1) := by decide +kernel
theorem dX5_turn_51 : decode cX5_turn 51 = .ok (.iaload, 1) := by decide +kernel
theorem dX5_turn_52 : decode cX5_turn 52 = .ok (.isub, 1) := by decide +kernel
theorem dX5_turn_53 : decode cX5_turn 53 = .ok (.imul, 1) := by decide +kernel
theorem dX5_turn_54 : decode cX5_turn 54 = .ok (.isub, 1) := by decide +kernel
theorem dX5_turn_55 : decode cX5_turn 55 = .ok (.ireturn, 1) := by decide +kernel
theorem dX5_far_0 : decode cX5_far 0 = .ok (.aload_n 0, 1) := by decide +kernel
theorem dX5_far_1 : decode cX5_far 1 = .ok (.getfield 20, 3) := by decide +kernel
theorem dX5_far_4 : decode cX5_far 4 = .ok (.iload_n 1, 1) := by decide +kernel
theorem dX5_far_5 : decode cX5_far 5 = .ok (.iaload, 1) := by decide +kernel
theorem dX5_far_6 : decode cX5_far 6 = .ok (.aload_n 0, 1) := by decide +kernel
theorem dX5_far_7 : decode cX5_far 7 = .ok (.getfield 20, 3) := by decide +kernel
theorem dX5_far_10 : decode cX5_far 10 = .ok (.iload_n 2, 1) := by decide +kernel
theorem dX5_far_11 : decode cX5_far 11 = .ok (.iaload, 1) := by decide +kernel
theorem dX5_far_12 : decode cX5_far 12 = .ok (.isub, 1) := by decide +kernel
theorem dX5_far_13 : decode cX5_far 13 = .ok (.aload_n 0, 1) := by decide +kernel
theorem dX5_far_14 : decode cX5_far 14 = .ok (.getfield 20, 3) := by decide +kernel
theorem dX5_far_17 : decode cX5_far 17 = .ok (.iload_n 1, 1) := by decide +kernel
theorem dX5_far_18 : decode cX5_far 18 = .ok (.iaload, 1) := by decide +kernel
theorem dX5_far_19 : decode cX5_far 19 = .ok (.aload_n 0, 1) := by decide +kernel
theorem dX5_far_20 : decode cX5_far 20 = .ok (.getfield 20, 3) := by decide +kernel
theorem dX5_far_23 : decode cX5_far 23 = .ok (.iload_n 2, 1) := by decide +kernel
theorem dX5_far_24 : decode cX5_far 24 = .ok (.iaload, 1) := by decide +kernel
theorem dX5_far_25 : decode cX5_far 25 = .ok (.isub, 1) := by decide +kernel
theorem dX5_far_26 : decode cX5_far 26 = .ok (.imul, 1) := by decide +kernel
theorem dX5_far_27 : decode cX5_far 27 = .ok (.aload_n 0, 1) := by decide +kernel
theorem dX5_far_28 : decode cX5_far 28 = .ok (.getfield 23, 3) := by decide +kernel
theorem dX5_far_31 : decode cX5_far 31 = .ok (.iload_n 1, 1) := by decide +kernel
theorem dX5_far_32 : decode cX5_far 32 = .ok (.iaload, 1) := by decide +kernel
theorem dX5_far_33 : decode cX5_far 33 = .ok (.aload_n 0, 1) := by decide +kernel
theorem dX5_far_34 : decode cX5_far 34 = .ok (.getfield 23, 3) := by decide +kernel
theorem dX5_far_37 : decode cX5_far 37 = .ok (.iload_n 2, 1) := by decide +kernel
theorem dX5_far_38 : decode cX5_far 38 = .ok (.iaload, 1) := by decide +kernel
theorem dX5_far_39 : decode cX5_far 39 = .ok (.isub, 1) := by decide +kernel
theorem dX5_far_40 : decode cX5_far 40 = .ok (.aload_n 0, 1) := by decide +kernel
theorem dX5_far_41 : decode cX5_far 41 = .ok (.getfield 23, 3) := by decide +kernel
theorem dX5_far_44 : decode cX5_far 44 = .ok (.iload_n 1, 1) := by decide +kernel
theorem dX5_far_45 : decode cX5_far 45 = .ok (.iaload, 1) := by decide +kernel
theorem dX5_far_46 : decode cX5_far 46 = .ok (.aload_n 0, 1) := by decide +kernel
theorem dX5_far_47 : decode cX5_far 47 = .ok (.getfield 23, 3) := by decide +kernel
theorem dX5_far_50 : decode cX5_far 50 = .ok (.iload_n 2, 1) := by decide +kernel
theorem dX5_far_51 : decode cX5_far 51 = .ok (.iaload, 1) := by decide +kernel
theorem dX5_far_52 : decode cX5_far 52 = .ok (.isub, 1) := by decide +kernel
theorem dX5_far_53 : decode cX5_far 53 = .ok (.imul, 1) := by decide +kernel
theorem dX5_far_54 : decode cX5_far 54 = .ok (.iadd, 1) := by decide +kernel
theorem dX5_far_55 : decode cX5_far 55 = .ok (.ireturn, 1) := by decide +kernel
theorem dX5_nextCorner_0 : decode cX5_nextCorner 0 = .ok (.bipush (-6), 2) := by decide +kernel
theorem dX5_nextCorner_2 : decode cX5_nextCorner 2 = .ok (.istore_n 2, 1) := by decide +kernel
theorem dX5_nextCorner_3 : decode cX5_nextCorner 3 = .ok (.iconst 0, 1) := by decide +kernel
theorem dX5_nextCorner_4 : decode cX5_nextCorner 4 = .ok (.istore_n 3, 1) := by decide +kernel
theorem dX5_nextCorner_5 : decode cX5_nextCorner 5 = .ok (.iload_n 3, 1) := by decide +kernel
theorem dX5_nextCorner_6 : decode cX5_nextCorner 6 = .ok (.aload_n 0, 1) := by decide +kernel
theorem dX5_nextCorner_7 : decode cX5_nextCorner 7 = .ok (.getfield 63, 3) := by decide +kernel
theorem dX5_nextCorner_10 : decode cX5_nextCorner 10 = .ok (.if_icmp .ge 58, 3) := by decide +kernel
theorem dX5_nextCorner_13 : decode cX5_nextCorner 13 = .ok (.iload_n 3, 1) := by decide +kernel
theorem dX5_nextCorner_14 : decode cX5_nextCorner 14 = .ok (.iload_n 1, 1) := by decide +kernel
theorem dX5_nextCorner_15 : decode cX5_nextCorner 15 = .ok (.if_icmp .eq 47, 3) := by decide +kernel
theorem dX5_nextCorner_18 : decode cX5_nextCorner 18 = .ok (.iload_n 2, 1) := by decide +kernel
theorem dX5_nextCorner_19 : decode cX5_nextCorner 19 = .ok (.ifCond .ge 7, 3) := by decide +kernel
theorem dX5_nextCorner_22 : decode cX5_nextCorner 22 = .ok (.iconst (-1), 1) := by decide +kernel
theorem dX5_nextCorner_23 : decode cX5_nextCorner 23 = .ok (.goto 10, 3) := by decide +kernel
theorem dX5_nextCorner_26 : decode cX5_nextCorner 26 = .ok (.aload_n 0, 1) := by decide +kernel
theorem dX5_nextCorner_27 : decode cX5_nextCorner 27 = .ok (.iload_n 1, 1) := by decide +kernel
theorem dX5_nextCorner_28 : decode cX5_nextCorner 28 = .ok (.iload_n 2, 1) := by decide +kernel
theorem dX5_nextCorner_29 : decode cX5_nextCorner 29 = .ok (.iload_n 3, 1) := by decide +kernel
theorem dX5_nextCorner_30 : decode cX5_nextCorner 30 = .ok (.invokevirtual 67, 3) := by decide +kernel
theorem dX5_nextCorner_33 : decode cX5_nextCorner 33 = .ok (.istore 4, 2) := by decide +kernel
theorem dX5_nextCorner_35 : decode cX5_nextCorner 35 = .ok (.iload 4, 2) := by decide +kernel
theorem dX5_nextCorner_37 : decode cX5_nextCorner 37 = .ok (.ifCond .lt 23, 3) := by decide +kernel
theorem dX5_nextCorner_40 : decode cX5_nextCorner 40 = .ok (.iload 4, 2) := by decide +kernel
theorem dX5_nextCorner_42 : decode cX5_nextCorner 42 = .ok (.ifCond .ne 20, 3) := by decide +kernel
theorem dX5_nextCorner_45 : decode cX5_nextCorner 45 = .ok (.aload_n 0, 1) := by decide +kernel
theorem dX5_nextCorner_46 : decode cX5_nextCorner 46 = .ok (.iload_n 1, 1) := by decide +kernel
theorem dX5_nextCorner_47 : decode cX5_nextCorner 47 = .ok (.iload_n 3, 1) := by decide +kernel
theorem dX5_nextCorner_48 : decode cX5_nextCorner 48 = .ok (.invokevirtual 70, 3) := by decide +kernel
theorem dX5_nextCorner_51 : decode cX5_nextCorner 51 = .ok (.aload_n 0, 1) := by decide +kernel
theorem dX5_nextCorner_52 : decode cX5_nextCorner 52 = .ok (.iload_n 1, 1) := by decide +kernel
theorem dX5_nextCorner_53 : decode cX5_nextCorner 53 = .ok (.iload_n 2, 1) := by decide +kernel
theorem dX5_nextCorner_54 : decode cX5_nextCorner 54 = .ok (.invokevirtual 70, 3) := by decide +kernel
theorem dX5_nextCorner_57 : decode cX5_nextCorner 57 = .ok (.if_icmp .le 5, 3) := by decide +kernel
theorem dX5_nextCorner_60 : decode cX5_nextCorner 60 = .ok (.iload_n 3, 1) := by decide +kernel
theorem dX5_nextCorner_61 : decode cX5_nextCorner 61 = .ok (.istore_n 2, 1) := by decide +kernel
theorem dX5_nextCorner_62 : decode cX5_nextCorner 62 = .ok (.iinc 3 1, 3) := by decide +kernel
theorem dX5_nextCorner_65 : decode cX5_nextCorner 65 = .ok (.goto (-60), 3) := by decide +kernel
theorem dX5_nextCorner_68 : decode cX5_nextCorner 68 = .ok (.iload_n 2, 1) := by decide +kernel
theorem dX5_nextCorner_69 : decode cX5_nextCorner 69 = .ok (.ireturn, 1) := by decide +kernel
theorem dX5_layCorners_0 : decode cX5_layCorners 0 = .ok (.aload_n 0, 1) := by decide +kernel
theorem dX5_layCorners_1 : decode cX5_layCorners 1 = .ok (.iconst 0, 1) := by decide +kernel
theorem dX5_layCorners_2 : decode cX5_layCorners 2 = .ok (.putfield 74, 3) := by decide +kernel
theorem dX5_layCorners_5 : decode cX5_layCorners 5 = .ok (.aload_n 0, 1) := by decide +kernel
theorem dX5_layCorners_6 : decode cX5_layCorners 6 = .ok (.getfield 63, 3) := by decide +kernel
theorem dX5_layCorners_9 : decode cX5_layCorners 9 = .ok (.ifCond .ne 4, 3) := by decide +kernel
theorem dX5_layCorners_12 : decode cX5_layCorners 12 = .ok (.return_, 1) := by decide +kernel
theorem dX5_layCorners_13 : decode cX5_layCorners 13 = .ok (.iconst 0, 1) := by decide +kernel
theorem dX5_layCorners_14 : decode cX5_layCorners 14 = .ok (.istore_n 1, 1) := by decide +kernel
theorem dX5_layCorners_15 : decode cX5_layCorners 15 = .ok (.iconst 1, 1) := by decide +kernel
theorem dX5_layCorners_16 : decode cX5_layCorners 16 = .ok (.istore_n 2, 1) := by decide +kernel
theorem dX5_layCorners_17 : decode cX5_layCorners 17 = .ok (.iload_n 2, 1) := by decide +kernel
theorem dX5_layCorners_18 : decode cX5_layCorners 18 = .ok (.aload_n 0, 1) := by decide +kernel
theorem dX5_layCorners_19 : decode cX5_layCorners 19 = .ok (.getfield 63, 3) := by decide +kernel
theorem dX5_layCorners_22 : decode cX5_layCorners 22 = .ok (.if_icmp .ge 60, 3) := by decide +kernel
theorem dX5_layCorners_25 : decode cX5_layCorners 25 = .ok (.aload_n 0, 1) := by decide +kernel
theorem dX5_layCorners_26 : decode cX5_layCorners 26 = .ok (.getfield 23, 3) := by decide +kernel
theorem dX5_layCorners_29 : decode cX5_layCorners 29 = .ok (.iload_n 2, 1) := by decide +kernel
theorem dX5_layCorners_30 : decode cX5_layCorners 30 = .ok (.iaload, 1) := by decide +kernel
theorem dX5_layCorners_31 : decode cX5_layCorners 31 = .ok (.aload_n 0, 1) := by decide +kernel
theorem dX5_layCorners_32 : decode cX5_layCorners 32 = .ok (.getfield 23, 3) := by decide +kernel
theorem dX5_layCorners_35 : decode cX5_layCorners 35 = .ok (.iload_n 1, 1) := by decide +kernel
theorem dX5_layCorners_36 : decode cX5_layCorners 36 = .ok (.iaload, 1) := by decide +kernel
theorem dX5_layCorners_37 : decode cX5_layCorners 37 = .ok (.if_icmp .lt 33, 3) := by decide +kernel
theorem dX5_layCorners_40 : decode cX5_layCorners 40 = .ok (.aload_n 0, 1) := by decide +kernel
theorem dX5_layCorners_41 : decode cX5_layCorners 41 = .ok (.getfield 23, 3) := by decide +kernel
theorem dX5_layCorners_44 : decode cX5_layCorners 44 = .ok (.iload_n 2, 1) := by decide +kernel
theorem dX5_layCorners_45 : decode cX5_layCorners 45 = .ok (.iaload, 1) := by decide +kernel
theorem dX5_layCorners_46 : decode cX5_layCorners 46 = .ok (.aload_n 0, 1) := by decide +kernel
theorem dX5_layCorners_47 : decode cX5_layCorners 47 = .ok (.getfield 23, 3) := by decide +kernel
theorem dX5_layCorners_50 : decode cX5_layCorners 50 = .ok (.iload_n 1, 1) := by decide +kernel
theorem dX5_layCorners_51 : decode cX5_layCorners 51 = .ok (.iaload, 1) := by decide +kernel
theorem dX5_layCorners_52 : decode cX5_layCorners 52 = .ok (.if_icmp .ne 22, 3) := by decide +kernel
theorem dX5_layCorners_55 : decode cX5_layCorners 55 = .ok (.aload_n 0, 1) := by decide +kernel
theorem dX5_layCorners_56 : decode cX5_layCorners 56 = .ok (.getfield 20, 3) := by decide +kernel
theorem dX5_layCorners_59 : decode cX5_layCorners 59 = .ok (.iload_n 2, 1) := by decide +kernel
theorem dX5_layCorners_60 : decode cX5_layCorners 60 = .ok (.iaload, 1) := by decide +kernel
theorem dX5_layCorners_61 : decode cX5_layCorners 61 = .ok (.aload_n 0, 1) := by decide +kernel
theorem dX5_layCorners_62 : decode cX5_layCorners 62 = .ok (.getfield 20, 3) := by decide +kernel
theorem dX5_layCorners_65 : decode cX5_layCorners 65 = .ok (.iload_n 1, 1) := by decide +kernel
theorem dX5_layCorners_66 : decode cX5_layCorners 66 = .ok (.iaload, 1) := by decide +kernel
theorem dX5_layCorners_67 : decode cX5_layCorners 67 = .ok (.if_icmp .ge 7, 3) := by decide +kernel
theorem dX5_layCorners_70 : decode cX5_layCorners 70 = .ok (.iload_n 2, 1) := by decide +kernel
theorem dX5_layCorners_71 : decode cX5_layCorners 71 = .ok (.goto 4, 3) := by decide +kernel
theorem dX5_layCorners_74 : decode cX5_layCorners 74 = .ok (.iload_n 1, 1) := by decide +kernel
theorem dX5_layCorners_75 : decode cX5_layCorners 75 = .ok (.istore_n 1, 1) := by decide +kernel
theorem dX5_layCorners_76 : decode cX5_layCorners 76 = .ok (.iinc 2 1, 3) := by decide +kernel
theorem dX5_layCorners_79 : decode cX5_layCorners 79 = .ok (.goto (-62), 3) := by decide +kernel
theorem dX5_layCorners_82 : decode cX5_layCorners 82 = .ok (.iload_n 1, 1) := by decide +kernel
theorem dX5_layCorners_83 : decode cX5_layCorners 83 = .ok (.istore_n 2, 1) := by decide +kernel
theorem dX5_layCorners_84 : decode cX5_layCorners 84 = .ok (.aload_n 0, 1) := by decide +kernel
theorem dX5_layCorners_85 : decode cX5_layCorners 85 = .ok (.getfield 26, 3) := by decide +kernel
theorem dX5_layCorners_88 : decode cX5_layCorners 88 = .ok (.aload_n 0, 1) := by decide +kernel
theorem dX5_layCorners_89 : decode cX5_layCorners 89 = .ok (.getfield 74, 3) := by decide +kernel
theorem dX5_layCorners_92 : decode cX5_layCorners 92 = .ok (.iload_n 2, 1) := by decide +kernel
theorem dX5_layCorners_93 : decode cX5_layCorners 93 = .ok (.iastore, 1) := by decide +kernel
theorem dX5_layCorners_94 : decode cX5_layCorners 94 = .ok (.aload_n 0, 1) := by decide +kernel
theorem dX5_layCorners_95 : decode cX5_layCorners 95 = .ok (.dup, 1) := by decide +kernel
theorem dX5_layCorners_96 : decode cX5_layCorners 96 = .ok (.getfield 74, 3) := by decide +kernel
theorem dX5_layCorners_99 : decode cX5_layCorners 99 = .ok (.iconst 1, 1) := by decide +kernel
theorem dX5_layCorners_100 : decode cX5_layCorners 100 = .ok (.iadd, 1) := by decide +kernel
theorem dX5_layCorners_101 : decode cX5_layCorners 101 = .ok (.putfield 74, 3) := by decide +kernel
theorem dX5_layCorners_104 : decode cX5_layCorners 104 = .ok (.aload_n 0, 1) := by decide +kernel
theorem dX5_layCorners_105 : decode cX5_layCorners 105 = .ok (.getfield 63, 3) := by decide +kernel
theorem dX5_layCorners_108 : decode cX5_layCorners 108 = .ok (.iconst 1, 1) := by decide +kernel
theorem dX5_layCorners_109 : decode cX5_layCorners 109 = .ok (.if_icmp .ne 7, 3) := by decide +kernel
theorem dX5_layCorners_112 : decode cX5_layCorners 112 = .ok (.iload_n 1, 1) := by decide +kernel
theorem dX5_layCorners_113 : decode cX5_layCorners 113 = .ok (.goto 8, 3) := by decide +kernel
theorem dX5_layCorners_116 : decode cX5_layCorners 116 = .ok (.aload_n 0, 1) := by decide +kernel
theorem dX5_layCorners_117 : decode cX5_layCorners 117 = .ok (.iload_n 2, 1) := by decide +kernel
theorem dX5_layCorners_118 : decode cX5_layCorners 118 = .ok (.invokevirtual 77, 3) := by decide +kernel
theorem dX5_layCorners_121 : decode cX5_layCorners 121 = .ok (.istore_n 2, 1) := by decide +kernel
theorem dX5_layCorners_122 : decode cX5_layCorners 122 = .ok (.iload_n 2, 1) := by decide +kernel
theorem dX5_layCorners_123 : decode cX5_layCorners 123 = .ok (.iload_n 1, 1) := by decide +kernel
theorem dX5_layCorners_124 : decode cX5_layCorners 124 = .ok (.if_icmp .ne (-40), 3) := by decide +kernel
theorem dX5_layCorners_127 : decode cX5_layCorners 127 = .ok (.return_, 1) := by decide +kernel
theorem dX5_area_0 : decode cX5_area 0 = .ok (.iconst 0, 1) := by decide +kernel
theorem dX5_area_1 : decode cX5_area 1 = .ok (.istore_n 1, 1) := by decide +kernel
theorem dX5_area_2 : decode cX5_area 2 = .ok (.iconst 0, 1) := by decide +kernel
theorem dX5_area_3 : decode cX5_area 3 = .ok (.istore_n 2, 1) := by decide +kernel
theorem dX5_area_4 : decode cX5_area 4 = .ok (.iload_n 2, 1) := by decide +kernel
theorem dX5_area_5 : decode cX5_area 5 = .ok (.aload_n 0, 1) := by decide +kernel
theorem dX5_area_6 : decode cX5_area 6 = .ok (.getfield 74, 3) := by decide +kernel
theorem dX5_area_9 : decode cX5_area 9 = .ok (.if_icmp .ge 63, 3) := by decide +kernel
theorem dX5_area_12 : decode cX5_area 12 = .ok (.aload_n 0, 1) := by decide +kernel
theorem dX5_area_13 : decode cX5_area 13 = .ok (.getfield 26, 3) := by decide +kernel
theorem dX5_area_16 : decode cX5_area 16 = .ok (.iload_n 2, 1) := by decide +kernel
theorem dX5_area_17 : decode cX5_area 17 = .ok (.iaload, 1) := by decide +kernel
theorem dX5_area_18 : decode cX5_area 18 = .ok (.istore_n 3, 1) := by decide +kernel
theorem dX5_area_19 : decode cX5_area 19 = .ok (.aload_n 0, 1) := by decide +kernel
theorem dX5_area_20 : decode cX5_area 20 = .ok (.getfield 26, 3) := by decide +kernel
theorem dX5_area_23 : decode cX5_area 23 = .ok (.iload_n 2, 1) := by decide +kernel
theorem dX5_area_24 : decode cX5_area 24 = .ok (.iconst 1, 1) := by decide +kernel
theorem dX5_area_25 : decode cX5_area 25 = .ok (.iadd, 1) := by decide +kernel
theorem dX5_area_26 : decode cX5_area 26 = .ok (.aload_n 0, 1) := by decide +kernel
theorem dX5_area_27 : decode cX5_area 27 = .ok (.getfield 74, 3) := by decide +kernel
theorem dX5_area_30 : decode cX5_area 30 = .ok (.irem, 1) := by decide +kernel
theorem dX5_area_31 : decode cX5_area 31 = .ok (.iaload, 1) := by decide +kernel
theorem dX5_area_32 : decode cX5_area 32 = .ok (.istore 4, 2) := by decide +kernel
theorem dX5_area_34 : decode cX5_area 34 = .ok (.iload_n 1, 1) := by decide +kernel
theorem dX5_area_35 : decode cX5_area 35 = .ok (.aload_n 0, 1) := by decide +kernel
theorem dX5_area_36 : decode cX5_area 36 = .ok (.getfield 20, 3) := by decide +kernel
theorem dX5_area_39 : decode cX5_area 39 = .ok (.iload_n 3, 1) := by decide +kernel
theorem dX5_area_40 : decode cX5_area 40 = .ok (.iaload, 1) := by decide +kernel
theorem dX5_area_41 : decode cX5_area 41 = .ok (.aload_n 0, 1) := by decide +kernel
theorem dX5_area_42 : decode cX5_area 42 = .ok (.getfield 23, 3) := by decide +kernel
theorem dX5_area_45 : decode cX5_area 45 = .ok (.iload 4, 2) := by decide +kernel
theorem dX5_area_47 : decode cX5_area 47 = .ok (.iaload, 1) := by decide +kernel
theorem dX5_area_48 : decode cX5_area 48 = .ok (.imul, 1) := by decide +kernel
theorem dX5_area_49 : decode cX5_area 49 = .ok (.aload_n 0, 1) := by decide +kernel
theorem dX5_area_50 : decode cX5_area 50 = .ok (.getfield 20, 3) := by decide +kernel
theorem dX5_area_53 : decode cX5_area 53 = .ok (.iload 4, 2) := by decide +kernel
theorem dX5_area_55 : decode cX5_area 55 = .ok (.iaload, 1) := by decide +kernel
theorem dX5_area_56 : decode cX5_area 56 = .ok (.aload_n 0, 1) := by decide +kernel
theorem dX5_area_57 : decode cX5_area 57 = .ok (.getfield 23, 3) := by decide +kernel
theorem dX5_area_60 : decode cX5_area 60 = .ok (.iload_n 3, 1) := by decide +kernel
theorem dX5_area_61 : decode cX5_area 61 = .ok (.iaload, 1) := by decide +kernel
theorem dX5_area_62 : decode cX5_area 62 = .ok (.imul, 1) := by decide +kernel
theorem dX5_area_63 : decode cX5_area 63 = .ok (.isub, 1) := by decide +kernel
theorem dX5_area_64 : decode cX5_area 64 = .ok (.iadd, 1) := by decide +kernel
theorem dX5_area_65 : decode cX5_area 65 = .ok (.istore_n 1, 1) := by decide +kernel
theorem dX5_area_66 : decode cX5_area 66 = .ok (.iinc 2 1, 3) := by decide +kernel
theorem dX5_area_69 : decode cX5_area 69 = .ok (.goto (-65), 3) := by decide +kernel
theorem dX5_area_72 : decode cX5_area 72 = .ok (.iload_n 1, 1) := by decide +kernel
theorem dX5_area_73 : decode cX5_area 73 = .ok (.ireturn, 1) := by decide +kernel
theorem dX5_span_0 : decode cX5_span 0 = .ok (.aload_n 0, 1) := by decide +kernel
theorem dX5_span_1 : decode cX5_span 1 = .ok (.getfield 74, 3) := by decide +kernel
theorem dX5_span_4 : decode cX5_span 4 = .ok (.ifCond .ne 8, 3) := by decide +kernel
theorem dX5_span_7 : decode cX5_span 7 = .ok (.bipush (-6), 2) := by decide +kernel
theorem dX5_span_9 : decode cX5_span 9 = .ok (.goto 21, 3) := by decide +kernel
theorem dX5_span_12 : decode cX5_span 12 = .ok (.aload_n 0, 1) := by decide +kernel
theorem dX5_span_13 : decode cX5_span 13 = .ok (.getfield 74, 3) := by decide +kernel
theorem dX5_span_16 : decode cX5_span 16 = .ok (.iconst 2, 1) := by decide +kernel
theorem dX5_span_17 : decode cX5_span 17 = .ok (.if_icmp .le 7, 3) := by decide +kernel
theorem dX5_span_20 : decode cX5_span 20 = .ok (.iconst 2, 1) := by decide +kernel
theorem dX5_span_21 : decode cX5_span 21 = .ok (.goto 9, 3) := by decide +kernel
theorem dX5_span_24 : decode cX5_span 24 = .ok (.aload_n 0, 1) := by decide +kernel
theorem dX5_span_25 : decode cX5_span 25 = .ok (.getfield 74, 3) := by decide +kernel
theorem dX5_span_28 : decode cX5_span 28 = .ok (.iconst 1, 1) := by decide +kernel
theorem dX5_span_29 : decode cX5_span 29 = .ok (.isub, 1) := by decide +kernel
theorem dX5_span_30 : decode cX5_span 30 = .ok (.ireturn, 1) := by decide +kernel
theorem dX5_layBody_0 : decode cX5_layBody 0 = .ok (.aload_n 0, 1) := by decide +kernel
theorem dX5_layBody_1 : decode cX5_layBody 1 = .ok (.iconst 0, 1) := by decide +kernel
theorem dX5_layBody_2 : decode cX5_layBody 2 = .ok (.putfield 63, 3) := by decide +kernel
theorem dX5_layBody_5 : decode cX5_layBody 5 = .ok (.iconst 0, 1) := by decide +kernel
theorem dX5_layBody_6 : decode cX5_layBody 6 = .ok (.istore_n 3, 1) := by decide +kernel
theorem dX5_layBody_7 : decode cX5_layBody 7 = .ok (.iload_n 3, 1) := by decide +kernel
theorem dX5_layBody_8 : decode cX5_layBody 8 = .ok (.aload_n 0, 1) := by decide +kernel
theorem dX5_layBody_9 : decode cX5_layBody 9 = .ok (.iload_n 1, 1) := by decide +kernel
theorem dX5_layBody_10 : decode cX5_layBody 10 = .ok (.invokevirtual 56, 3) := by decide +kernel
theorem dX5_layBody_13 : decode cX5_layBody 13 = .ok (.if_icmp .ge 35, 3) := by decide +kernel
theorem dX5_layBody_16 : decode cX5_layBody 16 = .ok (.iload_n 2, 1) := by decide +kernel
theorem dX5_layBody_17 : decode cX5_layBody 17 = .ok (.iload_n 3, 1) := by decide +kernel
theorem dX5_layBody_18 : decode cX5_layBody 18 = .ok (.invokestatic 80, 3) := by decide +kernel
theorem dX5_layBody_21 : decode cX5_layBody 21 = .ok (.ifCond .eq 21, 3) := by decide +kernel
theorem dX5_layBody_24 : decode cX5_layBody 24 = .ok (.aload_n 0, 1) := by decide +kernel
theorem dX5_layBody_25 : decode cX5_layBody 25 = .ok (.aload_n 0, 1) := by decide +kernel
theorem dX5_layBody_26 : decode cX5_layBody 26 = .ok (.iload_n 1, 1) := by decide +kernel
theorem dX5_layBody_27 : decode cX5_layBody 27 = .ok (.iload_n 3, 1) := by decide +kernel
theorem dX5_layBody_28 : decode cX5_layBody 28 = .ok (.iconst 0, 1) := by decide +kernel
theorem dX5_layBody_29 : decode cX5_layBody 29 = .ok (.invokevirtual 60, 3) := by decide +kernel
theorem dX5_layBody_32 : decode cX5_layBody 32 = .ok (.aload_n 0, 1) := by decide +kernel
theorem dX5_layBody_33 : decode cX5_layBody 33 = .ok (.iload_n 1, 1) := by decide +kernel
theorem dX5_layBody_34 : decode cX5_layBody 34 = .ok (.iload_n 3, 1) := by decide +kernel
theorem dX5_layBody_35 : decode cX5_layBody 35 = .ok (.iconst 1, 1) := by decide +kernel
theorem dX5_layBody_36 : decode cX5_layBody 36 = .ok (.invokevirtual 60, 3) := by decide +kernel
theorem dX5_layBody_39 : decode cX5_layBody 39 = .ok (.invokevirtual 84, 3) := by decide +kernel
theorem dX5_layBody_42 : decode cX5_layBody 42 = .ok (.iinc 3 1, 3) := by decide +kernel
theorem dX5_layBody_45 : decode cX5_layBody 45 = .ok (.goto (-38), 3) := by decide +kernel
theorem dX5_layBody_48 : decode cX5_layBody 48 = .ok (.aload_n 0, 1) := by decide +kernel
theorem dX5_layBody_49 : decode cX5_layBody 49 = .ok (.invokevirtual 88, 3) := by decide +kernel
theorem dX5_layBody_52 : decode cX5_layBody 52 = .ok (.return_, 1) := by decide +kernel
theorem dX5_laySums_0 : decode cX5_laySums 0 = .ok (.aload_n 0, 1) := by decide +kernel
theorem dX5_laySums_1 : decode cX5_laySums 1 = .ok (.iconst 0, 1) := by decide +kernel
theorem dX5_laySums_2 : decode cX5_laySums 2 = .ok (.putfield 63, 3) := by decide +kernel
theorem dX5_laySums_5 : decode cX5_laySums 5 = .ok (.iconst 0, 1) := by decide +kernel
theorem dX5_laySums_6 : decode cX5_laySums 6 = .ok (.istore 5, 2) := by decide +kernel
theorem dX5_laySums_8 : decode cX5_laySums 8 = .ok (.iload 5, 2) := by decide +kernel
theorem dX5_laySums_10 : decode cX5_laySums 10 = .ok (.aload_n 0, 1) := by decide +kernel
theorem dX5_laySums_11 : decode cX5_laySums 11 = .ok (.iload_n 1, 1) := by decide +kernel
theorem dX5_laySums_12 : decode cX5_laySums 12 = .ok (.invokevirtual 56, 3) := by decide +kernel
theorem dX5_laySums_15 : decode cX5_laySums 15 = .ok (.if_icmp .ge 85, 3) := by decide +kernel
theorem dX5_laySums_18 : decode cX5_laySums 18 = .ok (.iconst 0, 1) := by decide +kernel
theorem dX5_laySums_19 : decode cX5_laySums 19 = .ok (.istore 6, 2) := by decide +kernel
theorem dX5_laySums_21 : decode cX5_laySums 21 = .ok (.iload 6, 2) := by decide +kernel
theorem dX5_laySums_23 : decode cX5_laySums 23 = .ok (.aload_n 0, 1) := by decide +kernel
theorem dX5_laySums_24 : decode cX5_laySums 24 = .ok (.iload_n 3, 1) := by decide +kernel
theorem dX5_laySums_25 : decode cX5_laySums 25 = .ok (.invokevirtual 56, 3) := by decide +kernel
theorem dX5_laySums_28 : decode cX5_laySums 28 = .ok (.if_icmp .ge 66, 3) := by decide +kernel
theorem dX5_laySums_31 : decode cX5_laySums 31 = .ok (.iload_n 2, 1) := by decide +kernel
theorem dX5_laySums_32 : decode cX5_laySums 32 = .ok (.iload 5, 2) := by decide +kernel
theorem dX5_laySums_34 : decode cX5_laySums 34 = .ok (.invokestatic 80, 3) := by decide +kernel
theorem dX5_laySums_37 : decode cX5_laySums 37 = .ok (.ifCond .eq 51, 3) := by decide +kernel
theorem dX5_laySums_40 : decode cX5_laySums 40 = .ok (.iload 4, 2) := by decide +kernel
theorem dX5_laySums_42 : decode cX5_laySums 42 = .ok (.iload 6, 2) := by decide +kernel
theorem dX5_laySums_44 : decode cX5_laySums 44 = .ok (.invokestatic 80, 3) := by decide +kernel
theorem dX5_laySums_47 : decode cX5_laySums 47 = .ok (.ifCond .eq 41, 3) := by decide +kernel
theorem dX5_laySums_50 : decode cX5_laySums 50 = .ok (.aload_n 0, 1) := by decide +kernel
theorem dX5_laySums_51 : decode cX5_laySums 51 = .ok (.aload_n 0, 1) := by decide +kernel
theorem dX5_laySums_52 : decode cX5_laySums 52 = .ok (.iload_n 1, 1) := by decide +kernel
theorem dX5_laySums_53 : decode cX5_laySums 53 = .ok (.iload 5, 2) := by decide +kernel
theorem dX5_laySums_55 : decode cX5_laySums 55 = .ok (.iconst 0, 1) := by decide +kernel
theorem dX5_laySums_56 : decode cX5_laySums 56 = .ok (.invokevirtual 60, 3) := by decide +kernel
theorem dX5_laySums_59 : decode cX5_laySums 59 = .ok (.aload_n 0, 1) := by decide +kernel
theorem dX5_laySums_60 : decode cX5_laySums 60 = .ok (.iload_n 3, 1) := by decide +kernel
theorem dX5_laySums_61 : decode cX5_laySums 61 = .ok (.iload 6, 2) := by decide +kernel
theorem dX5_laySums_63 : decode cX5_laySums 63 = .ok (.iconst 0, 1) := by decide +kernel
theorem dX5_laySums_64 : decode cX5_laySums 64 = .ok (.invokevirtual 60, 3) := by decide +kernel
theorem dX5_laySums_67 : decode cX5_laySums 67 = .ok (.iadd, 1) := by decide +kernel
theorem dX5_laySums_68 : decode cX5_laySums 68 = .ok (.aload_n 0, 1) := by decide +kernel
theorem dX5_laySums_69 : decode cX5_laySums 69 = .ok (.iload_n 1, 1) := by decide +kernel
theorem dX5_laySums_70 : decode cX5_laySums 70 = .ok (.iload 5, 2) := by decide +kernel
theorem dX5_laySums_72 : decode cX5_laySums 72 = .ok (.iconst 1, 1) := by decide +kernel
theorem dX5_laySums_73 : decode cX5_laySums 73 = .ok (.invokevirtual 60, 3) := by decide +kernel
theorem dX5_laySums_76 : decode cX5_laySums 76 = .ok (.aload_n 0, 1) := by decide +kernel
theorem dX5_laySums_77 : decode cX5_laySums 77 = .ok (.iload_n 3, 1) := by decide +kernel
theorem dX5_laySums_78 : decode cX5_laySums 78 = .ok (.iload 6, 2) := by decide +kernel
theorem dX5_laySums_80 : decode cX5_laySums 80 = .ok (.iconst 1, 1) := by decide +kernel
theorem dX5_laySums_81 : decode cX5_laySums 81 = .ok (.invokevirtual 60, 3) := by decide +kernel
theorem dX5_laySums_84 : decode cX5_laySums 84 = .ok (.iadd, 1) := by decide +kernel
theorem dX5_laySums_85 : decode cX5_laySums 85 = .ok (.invokevirtual 84, 3) := by decide +kernel
theorem dX5_laySums_88 : decode cX5_laySums 88 = .ok (.iinc 6 1, 3) := by decide +kernel
theorem dX5_laySums_91 : decode cX5_laySums 91 = .ok (.goto (-70), 3) := by decide +kernel
theorem dX5_laySums_94 : decode cX5_laySums 94 = .ok (.iinc 5 1, 3) := by decide +kernel
theorem dX5_laySums_97 : decode cX5_laySums 97 = .ok (.goto (-89), 3) := by decide +kernel
theorem dX5_laySums_100 : decode cX5_laySums 100 = .ok (.aload_n 0, 1) := by decide +kernel
theorem dX5_laySums_101 : decode cX5_laySums 101 = .ok (.invokevirtual 88, 3) := by decide +kernel
theorem dX5_laySums_104 : decode cX5_laySums 104 = .ok (.return_, 1) := by decide +kernel
theorem dX5_lies_0 : decode cX5_lies 0 = .ok (.iconst 0, 1) := by decide +kernel
theorem dX5_lies_1 : decode cX5_lies 1 = .ok (.istore_n 3, 1) := by decide +kernel
theorem dX5_lies_2 : decode cX5_lies 2 = .ok (.iconst 0, 1) := by decide +kernel
theorem dX5_lies_3 : decode cX5_lies 3 = .ok (.istore 4, 2) := by decide +kernel
theorem dX5_lies_5 : decode cX5_lies 5 = .ok (.iload 4, 2) := by decide +kernel
theorem dX5_lies_7 : decode cX5_lies 7 = .ok (.aload_n 0, 1) := by decide +kernel
theorem dX5_lies_8 : decode cX5_lies 8 = .ok (.getfield 74, 3) := by decide +kernel
theorem dX5_lies_11 : decode cX5_lies 11 = .ok (.if_icmp .ge 155, 3) := by decide +kernel
theorem dX5_lies_14 : decode cX5_lies 14 = .ok (.aload_n 0, 1) := by decide +kernel
theorem dX5_lies_15 : decode cX5_lies 15 = .ok (.getfield 26, 3) := by decide +kernel
theorem dX5_lies_18 : decode cX5_lies 18 = .ok (.iload 4, 2) := by decide +kernel
theorem dX5_lies_20 : decode cX5_lies 20 = .ok (.iaload, 1) := by decide +kernel
theorem dX5_lies_21 : decode cX5_lies 21 = .ok (.istore 5, 2) := by decide +kernel
theorem dX5_lies_23 : decode cX5_lies 23 = .ok (.aload_n 0, 1) := by decide +kernel
theorem dX5_lies_24 : decode cX5_lies 24 = .ok (.getfield 26, 3) := by decide +kernel
theorem dX5_lies_27 : decode cX5_lies 27 = .ok (.iload 4, 2) := by decide +kernel
theorem dX5_lies_29 : decode cX5_lies 29 = .ok (.iconst 1, 1) := by decide +kernel
theorem dX5_lies_30 : decode cX5_lies 30 = .ok (.iadd, 1) := by decide +kernel
theorem dX5_lies_31 : decode cX5_lies 31 = .ok (.aload_n 0, 1) := by decide +kernel
theorem dX5_lies_32 : decode cX5_lies 32 = .ok (.getfield 74, 3) := by decide +kernel
theorem dX5_lies_35 : decode cX5_lies 35 = .ok (.irem, 1) := by decide +kernel
theorem dX5_lies_36 : decode cX5_lies 36 = .ok (.iaload, 1) := by decide +kernel
theorem dX5_lies_37 : decode cX5_lies 37 = .ok (.istore 6, 2) := by decide +kernel
theorem dX5_lies_39 : decode cX5_lies 39 = .ok (.aload_n 0, 1) := by decide +kernel
theorem dX5_lies_40 : decode cX5_lies 40 = .ok (.getfield 20, 3) := by decide +kernel
theorem dX5_lies_43 : decode cX5_lies 43 = .ok (.iload 6, 2) := by decide +kernel
theorem dX5_lies_45 : decode cX5_lies 45 = .ok (.iaload, 1) := by decide +kernel
theorem dX5_lies_46 : decode cX5_lies 46 = .ok (.aload_n 0, 1) := by decide +kernel
theorem dX5_lies_47 : decode cX5_lies 47 = .ok (.getfield 20, 3) := by decide +kernel
theorem dX5_lies_50 : decode cX5_lies 50 = .ok (.iload 5, 2) := by decide +kernel
theorem dX5_lies_52 : decode cX5_lies 52 = .ok (.iaload, 1) := by decide +kernel
theorem dX5_lies_53 : decode cX5_lies 53 = .ok (.isub, 1) := by decide +kernel
theorem dX5_lies_54 : decode cX5_lies 54 = .ok (.iload_n 2, 1) := by decide +kernel
theorem dX5_lies_55 : decode cX5_lies 55 = .ok (.aload_n 0, 1) := by decide +kernel
theorem dX5_lies_56 : decode cX5_lies 56 = .ok (.getfield 23, 3) := by decide +kernel
theorem dX5_lies_59 : decode cX5_lies 59 = .ok (.iload 5, 2) := by decide +kernel
theorem dX5_lies_61 : decode cX5_lies 61 = .ok (.iaload, 1) := by decide +kernel
theorem dX5_lies_62 : decode cX5_lies 62 = .ok (.isub, 1) := by decide +kernel
theorem dX5_lies_63 : decode cX5_lies 63 = .ok (.imul, 1) := by decide +kernel
theorem dX5_lies_64 : decode cX5_lies 64 = .ok (.aload_n 0, 1) := by decide +kernel
theorem dX5_lies_65 : decode cX5_lies 65 = .ok (.getfield 23, 3) := by decide +kernel
theorem dX5_lies_68 : decode cX5_lies 68 = .ok (.iload 6, 2) := by decide +kernel
theorem dX5_lies_70 : decode cX5_lies 70 = .ok (.iaload, 1) := by decide +kernel
theorem dX5_lies_71 : decode cX5_lies 71 = .ok (.aload_n 0, 1) := by decide +kernel
theorem dX5_lies_72 : decode cX5_lies 72 = .ok (.getfield 23, 3) := by decide +kernel
theorem dX5_lies_75 : decode cX5_lies 75 = .ok (.iload 5, 2) := by decide +kernel
theorem dX5_lies_77 : decode cX5_lies 77 = .ok (.iaload, 1) := by decide +kernel
theorem dX5_lies_78 : decode cX5_lies 78 = .ok (.isub, 1) := by decide +kernel
theorem dX5_lies_79 : decode cX5_lies 79 = .ok (.iload_n 1, 1) := by decide +kernel
theorem dX5_lies_80 : decode cX5_lies 80 = .ok (.aload_n 0, 1) := by decide +kernel
theorem dX5_lies_81 : decode cX5_lies 81 = .ok (.getfield 20, 3) := by decide +kernel
theorem dX5_lies_84 : decode cX5_lies 84 = .ok (.iload 5, 2) := by decide +kernel
theorem dX5_lies_86 : decode cX5_lies 86 = .ok (.iaload, 1) := by decide +kernel
theorem dX5_lies_87 : decode cX5_lies 87 = .ok (.isub, 1) := by decide +kernel
theorem dX5_lies_88 : decode cX5_lies 88 = .ok (.imul, 1) := by decide +kernel
theorem dX5_lies_89 : decode cX5_lies 89 = .ok (.isub, 1) := by decide +kernel
theorem dX5_lies_90 : decode cX5_lies 90 = .ok (.istore 7, 2) := by decide +kernel
theorem dX5_lies_92 : decode cX5_lies 92 = .ok (.iload 7, 2) := by decide +kernel
theorem dX5_lies_94 : decode cX5_lies 94 = .ok (.ifCond .ge 5, 3) := by decide +kernel
theorem dX5_lies_97 : decode cX5_lies 97 = .ok (.iconst 0, 1) := by decide +kernel
theorem dX5_lies_98 : decode cX5_lies 98 = .ok (.ireturn, 1) := by decide +kernel
theorem dX5_lies_99 : decode cX5_lies 99 = .ok (.iload_n 1, 1) := by decide +kernel
theorem dX5_lies_100 : decode cX5_lies 100 = .ok (.aload_n 0, 1) := by decide +kernel
theorem dX5_lies_101 : decode cX5_lies 101 = .ok (.getfield 20, 3) := by decide +kernel
theorem dX5_lies_104 : decode cX5_lies 104 = .ok (.iload 5, 2) := by decide +kernel
theorem dX5_lies_106 : decode cX5_lies 106 = .ok (.iaload, 1) := by decide +kernel
theorem dX5_lies_107 : decode cX5_lies 107 = .ok (.isub, 1) := by decide +kernel
theorem dX5_lies_108 : decode cX5_lies 108 = .ok (.iload_n 1, 1) := by decide +kernel
theorem dX5_lies_109 : decode cX5_lies 109 = .ok (.aload_n 0, 1) := by decide +kernel
theorem dX5_lies_110 : decode cX5_lies 110 = .ok (.getfield 20, 3) := by decide +kernel
theorem dX5_lies_113 : decode cX5_lies 113 = .ok (.iload 6, 2) := by decide +kernel
theorem dX5_lies_115 : decode cX5_lies 115 = .ok (.iaload, 1) := by decide +kernel
theorem dX5_lies_116 : decode cX5_lies 116 = .ok (.isub, 1) := by decide +kernel
theorem dX5_lies_117 : decode cX5_lies 117 = .ok (.imul, 1) := by decide +kernel
theorem dX5_lies_118 : decode cX5_lies 118 = .ok (.iload_n 2, 1) := by decide +kernel
theorem dX5_lies_119 : decode cX5_lies 119 = .ok (.aload_n 0, 1) := by decide +kernel
theorem dX5_lies_120 : decode cX5_lies 120 = .ok (.getfield 23, 3) := by decide +kernel
theorem dX5_lies_123 : decode cX5_lies 123 = .ok (.iload 5, 2) := by decide +kernel
theorem dX5_lies_125 : decode cX5_lies 125 = .ok (.iaload, 1) := by decide +kernel
theorem dX5_lies_126 : decode cX5_lies 126 = .ok (.isub, 1) := by decide +kernel
theorem dX5_lies_127 : decode cX5_lies 127 = .ok (.iload_n 2, 1) := by decide +kernel
theorem dX5_lies_128 : decode cX5_lies 128 = .ok (.aload_n 0, 1) := by decide +kernel
theorem dX5_lies_129 : decode cX5_lies 129 = .ok (.getfield 23, 3) := by decide +kernel
theorem dX5_lies_132 : decode cX5_lies 132 = .ok (.iload 6, 2) := by decide +kernel
theorem dX5_lies_134 : decode cX5_lies 134 = .ok (.iaload, 1) := by decide +kernel
theorem dX5_lies_135 : decode cX5_lies 135 = .ok (.isub, 1) := by decide +kernel
theorem dX5_lies_136 : decode cX5_lies 136 = .ok (.imul, 1) := by decide +kernel
theorem dX5_lies_137 : decode cX5_lies 137 = .ok (.iadd, 1) := by decide +kernel
theorem dX5_lies_138 : decode cX5_lies 138 = .ok (.istore 8, 2) := by decide +kernel
theorem dX5_lies_140 : decode cX5_lies 140 = .ok (.iload_n 3, 1) := by decide +kernel
theorem dX5_lies_141 : decode cX5_lies 141 = .ok (.ifCond .ne 13, 3) := by decide +kernel
theorem dX5_lies_144 : decode cX5_lies 144 = .ok (.iload 7, 2) := by decide +kernel
theorem dX5_lies_146 : decode cX5_lies 146 = .ok (.ifCond .ne 12, 3) := by decide +kernel
theorem dX5_lies_149 : decode cX5_lies 149 = .ok (.iload 8, 2) := by decide +kernel
theorem dX5_lies_151 : decode cX5_lies 151 = .ok (.ifCond .gt 7, 3) := by decide +kernel
theorem dX5_lies_154 : decode cX5_lies 154 = .ok (.iconst 1, 1) := by decide +kernel
theorem dX5_lies_155 : decode cX5_lies 155 = .ok (.goto 4, 3) := by decide +kernel
theorem dX5_lies_158 : decode cX5_lies 158 = .ok (.iconst 0, 1) := by decide +kernel
theorem dX5_lies_159 : decode cX5_lies 159 = .ok (.istore_n 3, 1) := by decide +kernel
theorem dX5_lies_160 : decode cX5_lies 160 = .ok (.iinc 4 1, 3) := by decide +kernel
theorem dX5_lies_163 : decode cX5_lies 163 = .ok (.goto (-158), 3) := by decide +kernel
theorem dX5_lies_166 : decode cX5_lies 166 = .ok (.iload_n 3, 1) := by decide +kernel
theorem dX5_lies_167 : decode cX5_lies 167 = .ok (.ifCond .eq 7, 3) := by decide +kernel
theorem dX5_lies_170 : decode cX5_lies 170 = .ok (.iconst 1, 1) := by decide +kernel
theorem dX5_lies_171 : decode cX5_lies 171 = .ok (.goto 16, 3) := by decide +kernel
theorem dX5_lies_174 : decode cX5_lies 174 = .ok (.aload_n 0, 1) := by decide +kernel
theorem dX5_lies_175 : decode cX5_lies 175 = .ok (.getfield 74, 3) := by decide +kernel
theorem dX5_lies_178 : decode cX5_lies 178 = .ok (.iconst 2, 1) := by decide +kernel
theorem dX5_lies_179 : decode cX5_lies 179 = .ok (.if_icmp .le 7, 3) := by decide +kernel
theorem dX5_lies_182 : decode cX5_lies 182 = .ok (.iconst 2, 1) := by decide +kernel
theorem dX5_lies_183 : decode cX5_lies 183 = .ok (.goto 4, 3) := by decide +kernel
theorem dX5_lies_186 : decode cX5_lies 186 = .ok (.iconst 0, 1) := by decide +kernel
theorem dX5_lies_187 : decode cX5_lies 187 = .ok (.ireturn, 1) := by decide +kernel
theorem dX5_lattice_0 : decode cX5_lattice 0 = .ok (.iconst 0, 1) := by decide +kernel
theorem dX5_lattice_1 : decode cX5_lattice 1 = .ok (.istore_n 2, 1) := by decide +kernel
theorem dX5_lattice_2 : decode cX5_lattice 2 = .ok (.iload_n 1, 1) := by decide +kernel
theorem dX5_lattice_3 : decode cX5_lattice 3 = .ok (.iconst 1, 1) := by decide +kernel
theorem dX5_lattice_4 : decode cX5_lattice 4 = .ok (.if_icmp .ne 7, 3) := by decide +kernel
theorem dX5_lattice_7 : decode cX5_lattice 7 = .ok (.iconst 2, 1) := by decide +kernel
theorem dX5_lattice_8 : decode cX5_lattice 8 = .ok (.goto 4, 3) := by decide +kernel
theorem dX5_lattice_11 : decode cX5_lattice 11 = .ok (.iconst 1, 1) := by decide +kernel
theorem dX5_lattice_12 : decode cX5_lattice 12 = .ok (.istore_n 3, 1) := by decide +kernel
theorem dX5_lattice_13 : decode cX5_lattice 13 = .ok (.iconst 0, 1) := by decide +kernel
theorem dX5_lattice_14 : decode cX5_lattice 14 = .ok (.istore 4, 2) := by decide +kernel
theorem dX5_lattice_16 : decode cX5_lattice 16 = .ok (.iload 4, 2) := by decide +kernel
theorem dX5_lattice_18 : decode cX5_lattice 18 = .ok (.bipush 12, 2) := by decide +kernel
theorem dX5_lattice_20 : decode cX5_lattice 20 = .ok (.if_icmp .gt 49, 3) := by decide +kernel
theorem dX5_lattice_23 : decode cX5_lattice 23 = .ok (.iconst 0, 1) := by decide +kernel
theorem dX5_lattice_24 : decode cX5_lattice 24 = .ok (.istore 5, 2) := by decide +kernel
theorem dX5_lattice_26 : decode cX5_lattice 26 = .ok (.iload 5, 2) := by decide +kernel
theorem dX5_lattice_28 : decode cX5_lattice 28 = .ok (.bipush 12, 2) := by decide +kernel
theorem dX5_lattice_30 : decode cX5_lattice 30 = .ok (.if_icmp .gt 33, 3) := by decide +kernel
theorem dX5_lattice_33 : decode cX5_lattice 33 = .ok (.iload_n 2, 1) := by decide +kernel
theorem dX5_lattice_34 : decode cX5_lattice 34 = .ok (.aload_n 0, 1) := by decide +kernel
theorem dX5_lattice_35 : decode cX5_lattice 35 = .ok (.iload 4, 2) := by decide +kernel
theorem dX5_lattice_37 : decode cX5_lattice 37 = .ok (.iload 5, 2) := by decide +kernel
theorem dX5_lattice_39 : decode cX5_lattice 39 = .ok (.invokevirtual 91, 3) := by decide +kernel
theorem dX5_lattice_42 : decode cX5_lattice 42 = .ok (.iconst 1, 1) := by decide +kernel
theorem dX5_lattice_43 : decode cX5_lattice 43 = .ok (.iload_n 3, 1) := by decide +kernel
theorem dX5_lattice_44 : decode cX5_lattice 44 = .ok (.invokestatic 44, 3) := by decide +kernel
theorem dX5_lattice_47 : decode cX5_lattice 47 = .ok (.ifCond .eq 7, 3) := by decide +kernel
theorem dX5_lattice_50 : decode cX5_lattice 50 = .ok (.iconst 1, 1) := by decide +kernel
theorem dX5_lattice_51 : decode cX5_lattice 51 = .ok (.goto 4, 3) := by decide +kernel
theorem dX5_lattice_54 : decode cX5_lattice 54 = .ok (.iconst 0, 1) := by decide +kernel
theorem dX5_lattice_55 : decode cX5_lattice 55 = .ok (.iadd, 1) := by decide +kernel
theorem dX5_lattice_56 : decode cX5_lattice 56 = .ok (.istore_n 2, 1) := by decide +kernel
theorem dX5_lattice_57 : decode cX5_lattice 57 = .ok (.iinc 5 1, 3) := by decide +kernel
theorem dX5_lattice_60 : decode cX5_lattice 60 = .ok (.goto (-34), 3) := by decide +kernel
theorem dX5_lattice_63 : decode cX5_lattice 63 = .ok (.iinc 4 1, 3) := by decide +kernel
theorem dX5_lattice_66 : decode cX5_lattice 66 = .ok (.goto (-50), 3) := by decide +kernel
theorem dX5_lattice_69 : decode cX5_lattice 69 = .ok (.iload_n 2, 1) := by decide +kernel
theorem dX5_lattice_70 : decode cX5_lattice 70 = .ok (.ireturn, 1) := by decide +kernel
theorem dX5_hull_0 : decode cX5_hull 0 = .ok (.iload_n 1, 1) := by decide +kernel
theorem dX5_hull_1 : decode cX5_hull 1 = .ok (.invokestatic 52, 3) := by decide +kernel
theorem dX5_hull_4 : decode cX5_hull 4 = .ok (.ifCond .ne 5, 3) := by decide +kernel
theorem dX5_hull_7 : decode cX5_hull 7 = .ok (.iconst (-1), 1) := by decide +kernel
theorem dX5_hull_8 : decode cX5_hull 8 = .ok (.ireturn, 1) := by decide +kernel
theorem dX5_hull_9 : decode cX5_hull 9 = .ok (.iload_n 2, 1) := by decide +kernel
theorem dX5_hull_10 : decode cX5_hull 10 = .ok (.iconst 0, 1) := by decide +kernel
theorem dX5_hull_11 : decode cX5_hull 11 = .ok (.iconst 4, 1) := by decide +kernel
theorem dX5_hull_12 : decode cX5_hull 12 = .ok (.invokestatic 44, 3) := by decide +kernel
theorem dX5_hull_15 : decode cX5_hull 15 = .ok (.ifCond .ne 6, 3) := by decide +kernel
theorem dX5_hull_18 : decode cX5_hull 18 = .ok (.bipush (-2), 2) := by decide +kernel
theorem dX5_hull_20 : decode cX5_hull 20 = .ok (.ireturn, 1) := by decide +kernel
theorem dX5_hull_21 : decode cX5_hull 21 = .ok (.aload_n 0, 1) := by decide +kernel
theorem dX5_hull_22 : decode cX5_hull 22 = .ok (.iload_n 1, 1) := by decide +kernel
theorem dX5_hull_23 : decode cX5_hull 23 = .ok (.bipush 127, 2) := by decide +kernel
theorem dX5_hull_25 : decode cX5_hull 25 = .ok (.invokevirtual 94, 3) := by decide +kernel
theorem dX5_hull_28 : decode cX5_hull 28 = .ok (.iload_n 2, 1) := by decide +kernel
theorem dX5_hull_29 : decode cX5_hull 29 = .ok (.tableswitch 53 0 3 #[31, 36, 41, 47], 31) := by decide +kernel
theorem dX5_hull_60 : decode cX5_hull 60 = .ok (.aload_n 0, 1) := by decide +kernel
theorem dX5_hull_61 : decode cX5_hull 61 = .ok (.invokevirtual 97, 3) := by decide +kernel
theorem dX5_hull_64 : decode cX5_hull 64 = .ok (.ireturn, 1) := by decide +kernel
theorem dX5_hull_65 : decode cX5_hull 65 = .ok (.aload_n 0, 1) := by decide +kernel
theorem dX5_hull_66 : decode cX5_hull 66 = .ok (.getfield 74, 3) := by decide +kernel
theorem dX5_hull_69 : decode cX5_hull 69 = .ok (.ireturn, 1) := by decide +kernel
theorem dX5_hull_70 : decode cX5_hull 70 = .ok (.aload_n 0, 1) := by decide +kernel
theorem dX5_hull_71 : decode cX5_hull 71 = .ok (.iconst 1, 1) := by decide +kernel
theorem dX5_hull_72 : decode cX5_hull 72 = .ok (.invokevirtual 101, 3) := by decide +kernel
theorem dX5_hull_75 : decode cX5_hull 75 = .ok (.ireturn, 1) := by decide +kernel
theorem dX5_hull_76 : decode cX5_hull 76 = .ok (.aload_n 0, 1) := by decide +kernel
theorem dX5_hull_77 : decode cX5_hull 77 = .ok (.iconst 0, 1) := by decide +kernel
theorem dX5_hull_78 : decode cX5_hull 78 = .ok (.invokevirtual 101, 3) := by decide +kernel
theorem dX5_hull_81 : decode cX5_hull 81 = .ok (.ireturn, 1) := by decide +kernel
theorem dX5_hull_82 : decode cX5_hull 82 = .ok (.aload_n 0, 1) := by decide +kernel
theorem dX5_hull_83 : decode cX5_hull 83 = .ok (.invokevirtual 104, 3) := by decide +kernel
theorem dX5_hull_86 : decode cX5_hull 86 = .ok (.ireturn, 1) := by decide +kernel
theorem dX5_corner_0 : decode cX5_corner 0 = .ok (.iload_n 1, 1) := by decide +kernel
theorem dX5_corner_1 : decode cX5_corner 1 = .ok (.invokestatic 52, 3) := by decide +kernel
theorem dX5_corner_4 : decode cX5_corner 4 = .ok (.ifCond .ne 5, 3) := by decide +kernel
theorem dX5_corner_7 : decode cX5_corner 7 = .ok (.iconst (-1), 1) := by decide +kernel
theorem dX5_corner_8 : decode cX5_corner 8 = .ok (.ireturn, 1) := by decide +kernel
theorem dX5_corner_9 : decode cX5_corner 9 = .ok (.aload_n 0, 1) := by decide +kernel
theorem dX5_corner_10 : decode cX5_corner 10 = .ok (.iload_n 1, 1) := by decide +kernel
theorem dX5_corner_11 : decode cX5_corner 11 = .ok (.bipush 127, 2) := by decide +kernel
theorem dX5_corner_13 : decode cX5_corner 13 = .ok (.invokevirtual 94, 3) := by decide +kernel
theorem dX5_corner_16 : decode cX5_corner 16 = .ok (.iload_n 2, 1) := by decide +kernel
theorem dX5_corner_17 : decode cX5_corner 17 = .ok (.iconst 0, 1) := by decide +kernel
theorem dX5_corner_18 : decode cX5_corner 18 = .ok (.aload_n 0, 1) := by decide +kernel
theorem dX5_corner_19 : decode cX5_corner 19 = .ok (.getfield 74, 3) := by decide +kernel
theorem dX5_corner_22 : decode cX5_corner 22 = .ok (.iconst 1, 1) := by decide +kernel
theorem dX5_corner_23 : decode cX5_corner 23 = .ok (.isub, 1) := by decide +kernel
theorem dX5_corner_24 : decode cX5_corner 24 = .ok (.invokestatic 44, 3) := by decide +kernel
theorem dX5_corner_27 : decode cX5_corner 27 = .ok (.ifCond .eq 12, 3) := by decide +kernel
theorem dX5_corner_30 : decode cX5_corner 30 = .ok (.aload_n 0, 1) := by decide +kernel
theorem dX5_corner_31 : decode cX5_corner 31 = .ok (.getfield 26, 3) := by decide +kernel
theorem dX5_corner_34 : decode cX5_corner 34 = .ok (.iload_n 2, 1) := by decide +kernel
theorem dX5_corner_35 : decode cX5_corner 35 = .ok (.iaload, 1) := by decide +kernel
theorem dX5_corner_36 : decode cX5_corner 36 = .ok (.goto 5, 3) := by decide +kernel
theorem dX5_corner_39 : decode cX5_corner 39 = .ok (.bipush (-6), 2) := by decide +kernel
theorem dX5_corner_41 : decode cX5_corner 41 = .ok (.ireturn, 1) := by decide +kernel
theorem dX5_areaOf_0 : decode cX5_areaOf 0 = .ok (.aload_n 0, 1) := by decide +kernel
theorem dX5_areaOf_1 : decode cX5_areaOf 1 = .ok (.iload_n 1, 1) := by decide +kernel
theorem dX5_areaOf_2 : decode cX5_areaOf 2 = .ok (.iload_n 2, 1) := by decide +kernel
theorem dX5_areaOf_3 : decode cX5_areaOf 3 = .ok (.invokevirtual 94, 3) := by decide +kernel
theorem dX5_areaOf_6 : decode cX5_areaOf 6 = .ok (.aload_n 0, 1) := by decide +kernel
theorem dX5_areaOf_7 : decode cX5_areaOf 7 = .ok (.invokevirtual 97, 3) := by decide +kernel
theorem dX5_areaOf_10 : decode cX5_areaOf 10 = .ok (.ireturn, 1) := by decide +kernel
theorem dX5_areaOfSums_0 : decode cX5_areaOfSums 0 = .ok (.aload_n 0, 1) := by decide +kernel
theorem dX5_areaOfSums_1 : decode cX5_areaOfSums 1 = .ok (.iload_n 1, 1) := by decide +kernel
theorem dX5_areaOfSums_2 : decode cX5_areaOfSums 2 = .ok (.iload_n 2, 1) := by decide +kernel
theorem dX5_areaOfSums_3 : decode cX5_areaOfSums 3 = .ok (.iload_n 3, 1) := by decide +kernel
theorem dX5_areaOfSums_4 : decode cX5_areaOfSums 4 = .ok (.iload 4, 2) := by decide +kernel
theorem dX5_areaOfSums_6 : decode cX5_areaOfSums 6 = .ok (.invokevirtual 107, 3) := by decide +kernel
theorem dX5_areaOfSums_9 : decode cX5_areaOfSums 9 = .ok (.aload_n 0, 1) := by decide +kernel
theorem dX5_areaOfSums_10 : decode cX5_areaOfSums 10 = .ok (.invokevirtual 97, 3) := by decide +kernel
theorem dX5_areaOfSums_13 : decode cX5_areaOfSums 13 = .ok (.ireturn, 1) := by decide +kernel
theorem dX5_sum_0 : decode cX5_sum 0 = .ok (.iload_n 1, 1) := by decide +kernel
theorem dX5_sum_1 : decode cX5_sum 1 = .ok (.invokestatic 52, 3) := by decide +kernel
theorem dX5_sum_4 : decode cX5_sum 4 = .ok (.ifCond .eq 10, 3) := by decide +kernel
theorem dX5_sum_7 : decode cX5_sum 7 = .ok (.iload_n 2, 1) := by decide +kernel
theorem dX5_sum_8 : decode cX5_sum 8 = .ok (.invokestatic 52, 3) := by decide +kernel
theorem dX5_sum_11 : decode cX5_sum 11 = .ok (.ifCond .ne 5, 3) := by decide +kernel
theorem dX5_sum_14 : decode cX5_sum 14 = .ok (.iconst (-1), 1) := by decide +kernel
theorem dX5_sum_15 : decode cX5_sum 15 = .ok (.ireturn, 1) := by decide +kernel
theorem dX5_sum_16 : decode cX5_sum 16 = .ok (.iload_n 3, 1) := by decide +kernel
theorem dX5_sum_17 : decode cX5_sum 17 = .ok (.iconst 0, 1) := by decide +kernel
theorem dX5_sum_18 : decode cX5_sum 18 = .ok (.iconst 3, 1) := by decide +kernel
theorem dX5_sum_19 : decode cX5_sum 19 = .ok (.invokestatic 44, 3) := by decide +kernel
theorem dX5_sum_22 : decode cX5_sum 22 = .ok (.ifCond .ne 6, 3) := by decide +kernel
theorem dX5_sum_25 : decode cX5_sum 25 = .ok (.bipush (-2), 2) := by decide +kernel
theorem dX5_sum_27 : decode cX5_sum 27 = .ok (.ireturn, 1) := by decide +kernel
theorem dX5_sum_28 : decode cX5_sum 28 = .ok (.iload_n 3, 1) := by decide +kernel
theorem dX5_sum_29 : decode cX5_sum 29 = .ok (.iconst 3, 1) := by decide +kernel
theorem dX5_sum_30 : decode cX5_sum 30 = .ok (.if_icmp .ne 50, 3) := by decide +kernel
theorem dX5_sum_33 : decode cX5_sum 33 = .ok (.aload_n 0, 1) := by decide +kernel
theorem dX5_sum_34 : decode cX5_sum 34 = .ok (.iload_n 1, 1) := by decide +kernel
theorem dX5_sum_35 : decode cX5_sum 35 = .ok (.invokevirtual 56, 3) := by decide +kernel
theorem dX5_sum_38 : decode cX5_sum 38 = .ok (.ifCond .eq 11, 3) := by decide +kernel
theorem dX5_sum_41 : decode cX5_sum 41 = .ok (.aload_n 0, 1) := by decide +kernel
theorem dX5_sum_42 : decode cX5_sum 42 = .ok (.iload_n 2, 1) := by decide +kernel
theorem dX5_sum_43 : decode cX5_sum 43 = .ok (.invokevirtual 56, 3) := by decide +kernel
theorem dX5_sum_46 : decode cX5_sum 46 = .ok (.ifCond .ne 7, 3) := by decide +kernel
theorem dX5_sum_49 : decode cX5_sum 49 = .ok (.iconst 0, 1) := by decide +kernel
theorem dX5_sum_50 : decode cX5_sum 50 = .ok (.goto 29, 3) := by decide +kernel
theorem dX5_sum_53 : decode cX5_sum 53 = .ok (.aload_n 0, 1) := by decide +kernel
theorem dX5_sum_54 : decode cX5_sum 54 = .ok (.iload_n 1, 1) := by decide +kernel
theorem dX5_sum_55 : decode cX5_sum 55 = .ok (.bipush 127, 2) := by decide +kernel
theorem dX5_sum_57 : decode cX5_sum 57 = .ok (.iload_n 2, 1) := by decide +kernel
theorem dX5_sum_58 : decode cX5_sum 58 = .ok (.bipush 127, 2) := by decide +kernel
theorem dX5_sum_60 : decode cX5_sum 60 = .ok (.invokevirtual 111, 3) := by decide +kernel
theorem dX5_sum_63 : decode cX5_sum 63 = .ok (.aload_n 0, 1) := by decide +kernel
theorem dX5_sum_64 : decode cX5_sum 64 = .ok (.iload_n 1, 1) := by decide +kernel
theorem dX5_sum_65 : decode cX5_sum 65 = .ok (.bipush 127, 2) := by decide +kernel
theorem dX5_sum_67 : decode cX5_sum 67 = .ok (.invokevirtual 115, 3) := by decide +kernel
theorem dX5_sum_70 : decode cX5_sum 70 = .ok (.isub, 1) := by decide +kernel
theorem dX5_sum_71 : decode cX5_sum 71 = .ok (.aload_n 0, 1) := by decide +kernel
theorem dX5_sum_72 : decode cX5_sum 72 = .ok (.iload_n 2, 1) := by decide +kernel
theorem dX5_sum_73 : decode cX5_sum 73 = .ok (.bipush 127, 2) := by decide +kernel
theorem dX5_sum_75 : decode cX5_sum 75 = .ok (.invokevirtual 115, 3) := by decide +kernel
theorem dX5_sum_78 : decode cX5_sum 78 = .ok (.isub, 1) := by decide +kernel
theorem dX5_sum_79 : decode cX5_sum 79 = .ok (.ireturn, 1) := by decide +kernel
theorem dX5_sum_80 : decode cX5_sum 80 = .ok (.aload_n 0, 1) := by decide +kernel
theorem dX5_sum_81 : decode cX5_sum 81 = .ok (.iload_n 1, 1) := by decide +kernel
theorem dX5_sum_82 : decode cX5_sum 82 = .ok (.bipush 127, 2) := by decide +kernel
theorem dX5_sum_84 : decode cX5_sum 84 = .ok (.iload_n 2, 1) := by decide +kernel
theorem dX5_sum_85 : decode cX5_sum 85 = .ok (.bipush 127, 2) := by decide +kernel
theorem dX5_sum_87 : decode cX5_sum 87 = .ok (.invokevirtual 107, 3) := by decide +kernel
theorem dX5_sum_90 : decode cX5_sum 90 = .ok (.iload_n 3, 1) := by decide +kernel
theorem dX5_sum_91 : decode cX5_sum 91 = .ok (.ifCond .ne 10, 3) := by decide +kernel
theorem dX5_sum_94 : decode cX5_sum 94 = .ok (.aload_n 0, 1) := by decide +kernel
theorem dX5_sum_95 : decode cX5_sum 95 = .ok (.getfield 63, 3) := by decide +kernel
theorem dX5_sum_98 : decode cX5_sum 98 = .ok (.goto 19, 3) := by decide +kernel
theorem dX5_sum_101 : decode cX5_sum 101 = .ok (.iload_n 3, 1) := by decide +kernel
theorem dX5_sum_102 : decode cX5_sum 102 = .ok (.iconst 1, 1) := by decide +kernel
theorem dX5_sum_103 : decode cX5_sum 103 = .ok (.if_icmp .ne 10, 3) := by decide +kernel
theorem dX5_sum_106 : decode cX5_sum 106 = .ok (.aload_n 0, 1) := by decide +kernel
theorem dX5_sum_107 : decode cX5_sum 107 = .ok (.invokevirtual 97, 3) := by decide +kernel
theorem dX5_sum_110 : decode cX5_sum 110 = .ok (.goto 7, 3) := by decide +kernel
theorem dX5_sum_113 : decode cX5_sum 113 = .ok (.aload_n 0, 1) := by decide +kernel
theorem dX5_sum_114 : decode cX5_sum 114 = .ok (.getfield 74, 3) := by decide +kernel
theorem dX5_sum_117 : decode cX5_sum 117 = .ok (.ireturn, 1) := by decide +kernel
theorem dX5_sumCorner_0 : decode cX5_sumCorner 0 = .ok (.iload_n 1, 1) := by decide +kernel
theorem dX5_sumCorner_1 : decode cX5_sumCorner 1 = .ok (.invokestatic 52, 3) := by decide +kernel
theorem dX5_sumCorner_4 : decode cX5_sumCorner 4 = .ok (.ifCond .eq 10, 3) := by decide +kernel
theorem dX5_sumCorner_7 : decode cX5_sumCorner 7 = .ok (.iload_n 2, 1) := by decide +kernel
theorem dX5_sumCorner_8 : decode cX5_sumCorner 8 = .ok (.invokestatic 52, 3) := by decide +kernel
theorem dX5_sumCorner_11 : decode cX5_sumCorner 11 = .ok (.ifCond .ne 5, 3) := by decide +kernel
theorem dX5_sumCorner_14 : decode cX5_sumCorner 14 = .ok (.iconst (-1), 1) := by decide +kernel
theorem dX5_sumCorner_15 : decode cX5_sumCorner 15 = .ok (.ireturn, 1) := by decide +kernel
theorem dX5_sumCorner_16 : decode cX5_sumCorner 16 = .ok (.iload 4, 2) := by decide +kernel
theorem dX5_sumCorner_18 : decode cX5_sumCorner 18 = .ok (.iconst 0, 1) := by decide +kernel
theorem dX5_sumCorner_19 : decode cX5_sumCorner 19 = .ok (.iconst 1, 1) := by decide +kernel
theorem dX5_sumCorner_20 : decode cX5_sumCorner 20 = .ok (.invokestatic 44, 3) := by decide +kernel
theorem dX5_sumCorner_23 : decode cX5_sumCorner 23 = .ok (.ifCond .ne 6, 3) := by decide +kernel
theorem dX5_sumCorner_26 : decode cX5_sumCorner 26 = .ok (.bipush (-2), 2) := by decide +kernel
theorem dX5_sumCorner_28 : decode cX5_sumCorner 28 = .ok (.ireturn, 1) := by decide +kernel
theorem dX5_sumCorner_29 : decode cX5_sumCorner 29 = .ok (.aload_n 0, 1) := by decide +kernel
theorem dX5_sumCorner_30 : decode cX5_sumCorner 30 = .ok (.iload_n 1, 1) := by decide +kernel
theorem dX5_sumCorner_31 : decode cX5_sumCorner 31 = .ok (.bipush 127, 2) := by decide +kernel
theorem dX5_sumCorner_33 : decode cX5_sumCorner 33 = .ok (.iload_n 2, 1) := by decide +kernel
theorem dX5_sumCorner_34 : decode cX5_sumCorner 34 = .ok (.bipush 127, 2) := by decide +kernel
theorem dX5_sumCorner_36 : decode cX5_sumCorner 36 = .ok (.invokevirtual 107, 3) := by decide +kernel
theorem dX5_sumCorner_39 : decode cX5_sumCorner 39 = .ok (.iload_n 3, 1) := by decide +kernel
theorem dX5_sumCorner_40 : decode cX5_sumCorner 40 = .ok (.iconst 0, 1) := by decide +kernel
theorem dX5_sumCorner_41 : decode cX5_sumCorner 41 = .ok (.aload_n 0, 1) := by decide +kernel
theorem dX5_sumCorner_42 : decode cX5_sumCorner 42 = .ok (.getfield 74, 3) := by decide +kernel
theorem dX5_sumCorner_45 : decode cX5_sumCorner 45 = .ok (.iconst 1, 1) := by decide +kernel
theorem dX5_sumCorner_46 : decode cX5_sumCorner 46 = .ok (.isub, 1) := by decide +kernel
theorem dX5_sumCorner_47 : decode cX5_sumCorner 47 = .ok (.invokestatic 44, 3) := by decide +kernel
theorem dX5_sumCorner_50 : decode cX5_sumCorner 50 = .ok (.ifCond .ne 6, 3) := by decide +kernel
theorem dX5_sumCorner_53 : decode cX5_sumCorner 53 = .ok (.bipush (-6), 2) := by decide +kernel
theorem dX5_sumCorner_55 : decode cX5_sumCorner 55 = .ok (.ireturn, 1) := by decide +kernel
theorem dX5_sumCorner_56 : decode cX5_sumCorner 56 = .ok (.iload 4, 2) := by decide +kernel
theorem dX5_sumCorner_58 : decode cX5_sumCorner 58 = .ok (.ifCond .ne 17, 3) := by decide +kernel
theorem dX5_sumCorner_61 : decode cX5_sumCorner 61 = .ok (.aload_n 0, 1) := by decide +kernel
theorem dX5_sumCorner_62 : decode cX5_sumCorner 62 = .ok (.getfield 20, 3) := by decide +kernel
theorem dX5_sumCorner_65 : decode cX5_sumCorner 65 = .ok (.aload_n 0, 1) := by decide +kernel
theorem dX5_sumCorner_66 : decode cX5_sumCorner 66 = .ok (.getfield 26, 3) := by decide +kernel
theorem dX5_sumCorner_69 : decode cX5_sumCorner 69 = .ok (.iload_n 3, 1) := by decide +kernel
theorem dX5_sumCorner_70 : decode cX5_sumCorner 70 = .ok (.iaload, 1) := by decide +kernel
theorem dX5_sumCorner_71 : decode cX5_sumCorner 71 = .ok (.iaload, 1) := by decide +kernel
theorem dX5_sumCorner_72 : decode cX5_sumCorner 72 = .ok (.goto 14, 3) := by decide +kernel
theorem dX5_sumCorner_75 : decode cX5_sumCorner 75 = .ok (.aload_n 0, 1) := by decide +kernel
theorem dX5_sumCorner_76 : decode cX5_sumCorner 76 = .ok (.getfield 23, 3) := by decide +kernel
theorem dX5_sumCorner_79 : decode cX5_sumCorner 79 = .ok (.aload_n 0, 1) := by decide +kernel
theorem dX5_sumCorner_80 : decode cX5_sumCorner 80 = .ok (.getfield 26, 3) := by decide +kernel
theorem dX5_sumCorner_83 : decode cX5_sumCorner 83 = .ok (.iload_n 3, 1) := by decide +kernel
theorem dX5_sumCorner_84 : decode cX5_sumCorner 84 = .ok (.iaload, 1) := by decide +kernel
theorem dX5_sumCorner_85 : decode cX5_sumCorner 85 = .ok (.iaload, 1) := by decide +kernel
theorem dX5_sumCorner_86 : decode cX5_sumCorner 86 = .ok (.ireturn, 1) := by decide +kernel
theorem dX5_lowBy_0 : decode cX5_lowBy 0 = .ok (.iconst 0, 1) := by decide +kernel
theorem dX5_lowBy_1 : decode cX5_lowBy 1 = .ok (.istore 5, 2) := by decide +kernel
theorem dX5_lowBy_3 : decode cX5_lowBy 3 = .ok (.iconst 0, 1) := by decide +kernel
theorem dX5_lowBy_4 : decode cX5_lowBy 4 = .ok (.istore 6, 2) := by decide +kernel
theorem dX5_lowBy_6 : decode cX5_lowBy 6 = .ok (.iconst 0, 1) := by decide +kernel
theorem dX5_lowBy_7 : decode cX5_lowBy 7 = .ok (.istore 7, 2) := by decide +kernel
theorem dX5_lowBy_9 : decode cX5_lowBy 9 = .ok (.iload 7, 2) := by decide +kernel
theorem dX5_lowBy_11 : decode cX5_lowBy 11 = .ok (.aload_n 0, 1) := by decide +kernel
theorem dX5_lowBy_12 : decode cX5_lowBy 12 = .ok (.iload_n 1, 1) := by decide +kernel
theorem dX5_lowBy_13 : decode cX5_lowBy 13 = .ok (.invokevirtual 56, 3) := by decide +kernel
theorem dX5_lowBy_16 : decode cX5_lowBy 16 = .ok (.if_icmp .ge 83, 3) := by decide +kernel
theorem dX5_lowBy_19 : decode cX5_lowBy 19 = .ok (.aload_n 0, 1) := by decide +kernel
theorem dX5_lowBy_20 : decode cX5_lowBy 20 = .ok (.iload_n 1, 1) := by decide +kernel
theorem dX5_lowBy_21 : decode cX5_lowBy 21 = .ok (.iload 7, 2) := by decide +kernel
theorem dX5_lowBy_23 : decode cX5_lowBy 23 = .ok (.iconst 2, 1) := by decide +kernel
theorem dX5_lowBy_24 : decode cX5_lowBy 24 = .ok (.invokevirtual 60, 3) := by decide +kernel
theorem dX5_lowBy_27 : decode cX5_lowBy 27 = .ok (.iload 4, 2) := by decide +kernel
theorem dX5_lowBy_29 : decode cX5_lowBy 29 = .ok (.imul, 1) := by decide +kernel
theorem dX5_lowBy_30 : decode cX5_lowBy 30 = .ok (.aload_n 0, 1) := by decide +kernel
theorem dX5_lowBy_31 : decode cX5_lowBy 31 = .ok (.iload_n 1, 1) := by decide +kernel
theorem dX5_lowBy_32 : decode cX5_lowBy 32 = .ok (.iload 7, 2) := by decide +kernel
theorem dX5_lowBy_34 : decode cX5_lowBy 34 = .ok (.iconst 0, 1) := by decide +kernel
theorem dX5_lowBy_35 : decode cX5_lowBy 35 = .ok (.invokevirtual 60, 3) := by decide +kernel
theorem dX5_lowBy_38 : decode cX5_lowBy 38 = .ok (.iload_n 2, 1) := by decide +kernel
theorem dX5_lowBy_39 : decode cX5_lowBy 39 = .ok (.imul, 1) := by decide +kernel
theorem dX5_lowBy_40 : decode cX5_lowBy 40 = .ok (.iadd, 1) := by decide +kernel
theorem dX5_lowBy_41 : decode cX5_lowBy 41 = .ok (.aload_n 0, 1) := by decide +kernel
theorem dX5_lowBy_42 : decode cX5_lowBy 42 = .ok (.iload_n 1, 1) := by decide +kernel
theorem dX5_lowBy_43 : decode cX5_lowBy 43 = .ok (.iload 7, 2) := by decide +kernel
theorem dX5_lowBy_45 : decode cX5_lowBy 45 = .ok (.iconst 1, 1) := by decide +kernel
theorem dX5_lowBy_46 : decode cX5_lowBy 46 = .ok (.invokevirtual 60, 3) := by decide +kernel
theorem dX5_lowBy_49 : decode cX5_lowBy 49 = .ok (.iload_n 3, 1) := by decide +kernel
theorem dX5_lowBy_50 : decode cX5_lowBy 50 = .ok (.imul, 1) := by decide +kernel
theorem dX5_lowBy_51 : decode cX5_lowBy 51 = .ok (.iadd, 1) := by decide +kernel
theorem dX5_lowBy_52 : decode cX5_lowBy 52 = .ok (.istore 8, 2) := by decide +kernel
theorem dX5_lowBy_54 : decode cX5_lowBy 54 = .ok (.iload 5, 2) := by decide +kernel
theorem dX5_lowBy_56 : decode cX5_lowBy 56 = .ok (.ifCond .eq 10, 3) := by decide +kernel
theorem dX5_lowBy_59 : decode cX5_lowBy 59 = .ok (.iload 8, 2) := by decide +kernel
theorem dX5_lowBy_61 : decode cX5_lowBy 61 = .ok (.iload 6, 2) := by decide +kernel
theorem dX5_lowBy_63 : decode cX5_lowBy 63 = .ok (.if_icmp .ge 10, 3) := by decide +kernel
theorem dX5_lowBy_66 : decode cX5_lowBy 66 = .ok (.iconst 0, 1) := by decide +kernel
theorem dX5_lowBy_67 : decode cX5_lowBy 67 = .ok (.istore 5, 2) := by decide +kernel
theorem dX5_lowBy_69 : decode cX5_lowBy 69 = .ok (.iload 8, 2) := by decide +kernel
theorem dX5_lowBy_71 : decode cX5_lowBy 71 = .ok (.istore 6, 2) := by decide +kernel
theorem dX5_lowBy_73 : decode cX5_lowBy 73 = .ok (.iload 5, 2) := by decide +kernel
theorem dX5_lowBy_75 : decode cX5_lowBy 75 = .ok (.iload 8, 2) := by decide +kernel
theorem dX5_lowBy_77 : decode cX5_lowBy 77 = .ok (.iload 6, 2) := by decide +kernel
theorem dX5_lowBy_79 : decode cX5_lowBy 79 = .ok (.if_icmp .ne 10, 3) := by decide +kernel
theorem dX5_lowBy_82 : decode cX5_lowBy 82 = .ok (.iconst 1, 1) := by decide +kernel
theorem dX5_lowBy_83 : decode cX5_lowBy 83 = .ok (.iload 7, 2) := by decide +kernel
theorem dX5_lowBy_85 : decode cX5_lowBy 85 = .ok (.ishl, 1) := by decide +kernel
theorem dX5_lowBy_86 : decode cX5_lowBy 86 = .ok (.goto 4, 3) := by decide +kernel
theorem dX5_lowBy_89 : decode cX5_lowBy 89 = .ok (.iconst 0, 1) := by decide +kernel
theorem dX5_lowBy_90 : decode cX5_lowBy 90 = .ok (.ior, 1) := by decide +kernel
theorem dX5_lowBy_91 : decode cX5_lowBy 91 = .ok (.istore 5, 2) := by decide +kernel
theorem dX5_lowBy_93 : decode cX5_lowBy 93 = .ok (.iinc 7 1, 3) := by decide +kernel
theorem dX5_lowBy_96 : decode cX5_lowBy 96 = .ok (.goto (-87), 3) := by decide +kernel
theorem dX5_lowBy_99 : decode cX5_lowBy 99 = .ok (.iload 5, 2) := by decide +kernel
theorem dX5_lowBy_101 : decode cX5_lowBy 101 = .ok (.ireturn, 1) := by decide +kernel
theorem dX5_compare_0 : decode cX5_compare 0 = .ok (.iload_n 1, 1) := by decide +kernel
theorem dX5_compare_1 : decode cX5_compare 1 = .ok (.aload_n 0, 1) := by decide +kernel
theorem dX5_compare_2 : decode cX5_compare 2 = .ok (.getfield 35, 3) := by decide +kernel
theorem dX5_compare_5 : decode cX5_compare 5 = .ok (.iload 4, 2) := by decide +kernel
theorem dX5_compare_7 : decode cX5_compare 7 = .ok (.iaload, 1) := by decide +kernel
theorem dX5_compare_8 : decode cX5_compare 8 = .ok (.imul, 1) := by decide +kernel
theorem dX5_compare_9 : decode cX5_compare 9 = .ok (.aload_n 0, 1) := by decide +kernel
theorem dX5_compare_10 : decode cX5_compare 10 = .ok (.getfield 29, 3) := by decide +kernel
theorem dX5_compare_13 : decode cX5_compare 13 = .ok (.iload 4, 2) := by decide +kernel
theorem dX5_compare_15 : decode cX5_compare 15 = .ok (.iaload, 1) := by decide +kernel
theorem dX5_compare_16 : decode cX5_compare 16 = .ok (.iload_n 3, 1) := by decide +kernel
theorem dX5_compare_17 : decode cX5_compare 17 = .ok (.imul, 1) := by decide +kernel
theorem dX5_compare_18 : decode cX5_compare 18 = .ok (.isub, 1) := by decide +kernel
theorem dX5_compare_19 : decode cX5_compare 19 = .ok (.istore 5, 2) := by decide +kernel
theorem dX5_compare_21 : decode cX5_compare 21 = .ok (.iload 5, 2) := by decide +kernel
theorem dX5_compare_23 : decode cX5_compare 23 = .ok (.ifCond .eq 8, 3) := by decide +kernel
theorem dX5_compare_26 : decode cX5_compare 26 = .ok (.iload 5, 2) := by decide +kernel
theorem dX5_compare_28 : decode cX5_compare 28 = .ok (.goto 22, 3) := by decide +kernel
theorem dX5_compare_31 : decode cX5_compare 31 = .ok (.iload_n 2, 1) := by decide +kernel
theorem dX5_compare_32 : decode cX5_compare 32 = .ok (.aload_n 0, 1) := by decide +kernel
theorem dX5_compare_33 : decode cX5_compare 33 = .ok (.getfield 35, 3) := by decide +kernel
theorem dX5_compare_36 : decode cX5_compare 36 = .ok (.iload 4, 2) := by decide +kernel
theorem dX5_compare_38 : decode cX5_compare 38 = .ok (.iaload, 1) := by decide +kernel
theorem dX5_compare_39 : decode cX5_compare 39 = .ok (.imul, 1) := by decide +kernel
theorem dX5_compare_40 : decode cX5_compare 40 = .ok (.aload_n 0, 1) := by decide +kernel

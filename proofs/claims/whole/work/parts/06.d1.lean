theorem dX3_gatherFan_64 : decode cX3_gatherFan 64 = .ok (.imul, 1) := by decide +kernel
theorem dX3_gatherFan_65 : decode cX3_gatherFan 65 = .ok (.iadd, 1) := by decide +kernel
theorem dX3_gatherFan_66 : decode cX3_gatherFan 66 = .ok (.istore 4, 2) := by decide +kernel
theorem dX3_gatherFan_68 : decode cX3_gatherFan 68 = .ok (.iinc 5 1, 3) := by decide +kernel
theorem dX3_gatherFan_71 : decode cX3_gatherFan 71 = .ok (.goto (-48), 3) := by decide +kernel
theorem dX3_gatherFan_74 : decode cX3_gatherFan 74 = .ok (.aload_n 0, 1) := by decide +kernel
theorem dX3_gatherFan_75 : decode cX3_gatherFan 75 = .ok (.iload_n 3, 1) := by decide +kernel
theorem dX3_gatherFan_76 : decode cX3_gatherFan 76 = .ok (.iload 4, 2) := by decide +kernel
theorem dX3_gatherFan_78 : decode cX3_gatherFan 78 = .ok (.invokevirtual 34, 3) := by decide +kernel
theorem dX3_gatherFan_81 : decode cX3_gatherFan 81 = .ok (.iinc 2 1, 3) := by decide +kernel
theorem dX3_gatherFan_84 : decode cX3_gatherFan 84 = .ok (.goto (-77), 3) := by decide +kernel
theorem dX3_gatherFan_87 : decode cX3_gatherFan 87 = .ok (.aload_n 0, 1) := by decide +kernel
theorem dX3_gatherFan_88 : decode cX3_gatherFan 88 = .ok (.invokevirtual 38, 3) := by decide +kernel
theorem dX3_gatherFan_91 : decode cX3_gatherFan 91 = .ok (.areturn, 1) := by decide +kernel
theorem dX3_include_0 : decode cX3_include 0 = .ok (.aload_n 0, 1) := by decide +kernel
theorem dX3_include_1 : decode cX3_include 1 = .ok (.getfield 21, 3) := by decide +kernel
theorem dX3_include_4 : decode cX3_include 4 = .ok (.istore_n 3, 1) := by decide +kernel
theorem dX3_include_5 : decode cX3_include 5 = .ok (.iload_n 3, 1) := by decide +kernel
theorem dX3_include_6 : decode cX3_include 6 = .ok (.ifCond .le 21, 3) := by decide +kernel
theorem dX3_include_9 : decode cX3_include 9 = .ok (.aload_n 0, 1) := by decide +kernel
theorem dX3_include_10 : decode cX3_include 10 = .ok (.iload_n 3, 1) := by decide +kernel
theorem dX3_include_11 : decode cX3_include 11 = .ok (.iconst 1, 1) := by decide +kernel
theorem dX3_include_12 : decode cX3_include 12 = .ok (.isub, 1) := by decide +kernel
theorem dX3_include_13 : decode cX3_include 13 = .ok (.iload_n 1, 1) := by decide +kernel
theorem dX3_include_14 : decode cX3_include 14 = .ok (.iload_n 2, 1) := by decide +kernel
theorem dX3_include_15 : decode cX3_include 15 = .ok (.invokevirtual 46, 3) := by decide +kernel
theorem dX3_include_18 : decode cX3_include 18 = .ok (.ifCond .eq 9, 3) := by decide +kernel
theorem dX3_include_21 : decode cX3_include 21 = .ok (.iinc 3 (-1), 3) := by decide +kernel
theorem dX3_include_24 : decode cX3_include 24 = .ok (.goto (-19), 3) := by decide +kernel
theorem dX3_include_27 : decode cX3_include 27 = .ok (.iload_n 3, 1) := by decide +kernel
theorem dX3_include_28 : decode cX3_include 28 = .ok (.ifCond .le 31, 3) := by decide +kernel
theorem dX3_include_31 : decode cX3_include 31 = .ok (.aload_n 0, 1) := by decide +kernel
theorem dX3_include_32 : decode cX3_include 32 = .ok (.getfield 11, 3) := by decide +kernel
theorem dX3_include_35 : decode cX3_include 35 = .ok (.iload_n 3, 1) := by decide +kernel
theorem dX3_include_36 : decode cX3_include 36 = .ok (.iconst 1, 1) := by decide +kernel
theorem dX3_include_37 : decode cX3_include 37 = .ok (.isub, 1) := by decide +kernel
theorem dX3_include_38 : decode cX3_include 38 = .ok (.iaload, 1) := by decide +kernel
theorem dX3_include_39 : decode cX3_include 39 = .ok (.iload_n 1, 1) := by decide +kernel
theorem dX3_include_40 : decode cX3_include 40 = .ok (.if_icmp .ne 19, 3) := by decide +kernel
theorem dX3_include_43 : decode cX3_include 43 = .ok (.aload_n 0, 1) := by decide +kernel
theorem dX3_include_44 : decode cX3_include 44 = .ok (.getfield 15, 3) := by decide +kernel
theorem dX3_include_47 : decode cX3_include 47 = .ok (.iload_n 3, 1) := by decide +kernel
theorem dX3_include_48 : decode cX3_include 48 = .ok (.iconst 1, 1) := by decide +kernel
theorem dX3_include_49 : decode cX3_include 49 = .ok (.isub, 1) := by decide +kernel
theorem dX3_include_50 : decode cX3_include 50 = .ok (.iaload, 1) := by decide +kernel
theorem dX3_include_51 : decode cX3_include 51 = .ok (.iload_n 2, 1) := by decide +kernel
theorem dX3_include_52 : decode cX3_include 52 = .ok (.if_icmp .ne 7, 3) := by decide +kernel
theorem dX3_include_55 : decode cX3_include 55 = .ok (.iconst 1, 1) := by decide +kernel
theorem dX3_include_56 : decode cX3_include 56 = .ok (.goto 4, 3) := by decide +kernel
theorem dX3_include_59 : decode cX3_include 59 = .ok (.iconst 0, 1) := by decide +kernel
theorem dX3_include_60 : decode cX3_include 60 = .ok (.istore 4, 2) := by decide +kernel
theorem dX3_include_62 : decode cX3_include 62 = .ok (.iload 4, 2) := by decide +kernel
theorem dX3_include_64 : decode cX3_include 64 = .ok (.ifCond .ne 13, 3) := by decide +kernel
theorem dX3_include_67 : decode cX3_include 67 = .ok (.aload_n 0, 1) := by decide +kernel
theorem dX3_include_68 : decode cX3_include 68 = .ok (.getfield 21, 3) := by decide +kernel
theorem dX3_include_71 : decode cX3_include 71 = .ok (.sipush 128, 3) := by decide +kernel
theorem dX3_include_74 : decode cX3_include 74 = .ok (.if_icmp .lt 4, 3) := by decide +kernel
theorem dX3_include_77 : decode cX3_include 77 = .ok (.return_, 1) := by decide +kernel
theorem dX3_include_78 : decode cX3_include 78 = .ok (.aload_n 0, 1) := by decide +kernel
theorem dX3_include_79 : decode cX3_include 79 = .ok (.getfield 21, 3) := by decide +kernel
theorem dX3_include_82 : decode cX3_include 82 = .ok (.istore 5, 2) := by decide +kernel
theorem dX3_include_84 : decode cX3_include 84 = .ok (.iload 5, 2) := by decide +kernel
theorem dX3_include_86 : decode cX3_include 86 = .ok (.iload_n 3, 1) := by decide +kernel
theorem dX3_include_87 : decode cX3_include 87 = .ok (.if_icmp .le 41, 3) := by decide +kernel
theorem dX3_include_90 : decode cX3_include 90 = .ok (.aload_n 0, 1) := by decide +kernel
theorem dX3_include_91 : decode cX3_include 91 = .ok (.getfield 11, 3) := by decide +kernel
theorem dX3_include_94 : decode cX3_include 94 = .ok (.iload 5, 2) := by decide +kernel
theorem dX3_include_96 : decode cX3_include 96 = .ok (.aload_n 0, 1) := by decide +kernel
theorem dX3_include_97 : decode cX3_include 97 = .ok (.getfield 11, 3) := by decide +kernel
theorem dX3_include_100 : decode cX3_include 100 = .ok (.iload 5, 2) := by decide +kernel
theorem dX3_include_102 : decode cX3_include 102 = .ok (.iconst 1, 1) := by decide +kernel
theorem dX3_include_103 : decode cX3_include 103 = .ok (.isub, 1) := by decide +kernel
theorem dX3_include_104 : decode cX3_include 104 = .ok (.iaload, 1) := by decide +kernel
theorem dX3_include_105 : decode cX3_include 105 = .ok (.iastore, 1) := by decide +kernel
theorem dX3_include_106 : decode cX3_include 106 = .ok (.aload_n 0, 1) := by decide +kernel
theorem dX3_include_107 : decode cX3_include 107 = .ok (.getfield 15, 3) := by decide +kernel
theorem dX3_include_110 : decode cX3_include 110 = .ok (.iload 5, 2) := by decide +kernel
theorem dX3_include_112 : decode cX3_include 112 = .ok (.aload_n 0, 1) := by decide +kernel
theorem dX3_include_113 : decode cX3_include 113 = .ok (.getfield 15, 3) := by decide +kernel
theorem dX3_include_116 : decode cX3_include 116 = .ok (.iload 5, 2) := by decide +kernel
theorem dX3_include_118 : decode cX3_include 118 = .ok (.iconst 1, 1) := by decide +kernel
theorem dX3_include_119 : decode cX3_include 119 = .ok (.isub, 1) := by decide +kernel
theorem dX3_include_120 : decode cX3_include 120 = .ok (.iaload, 1) := by decide +kernel
theorem dX3_include_121 : decode cX3_include 121 = .ok (.iastore, 1) := by decide +kernel
theorem dX3_include_122 : decode cX3_include 122 = .ok (.iinc 5 (-1), 3) := by decide +kernel
theorem dX3_include_125 : decode cX3_include 125 = .ok (.goto (-41), 3) := by decide +kernel
theorem dX3_include_128 : decode cX3_include 128 = .ok (.aload_n 0, 1) := by decide +kernel
theorem dX3_include_129 : decode cX3_include 129 = .ok (.getfield 11, 3) := by decide +kernel
theorem dX3_include_132 : decode cX3_include 132 = .ok (.iload_n 3, 1) := by decide +kernel
theorem dX3_include_133 : decode cX3_include 133 = .ok (.iload_n 1, 1) := by decide +kernel
theorem dX3_include_134 : decode cX3_include 134 = .ok (.iastore, 1) := by decide +kernel
theorem dX3_include_135 : decode cX3_include 135 = .ok (.aload_n 0, 1) := by decide +kernel
theorem dX3_include_136 : decode cX3_include 136 = .ok (.getfield 15, 3) := by decide +kernel
theorem dX3_include_139 : decode cX3_include 139 = .ok (.iload_n 3, 1) := by decide +kernel
theorem dX3_include_140 : decode cX3_include 140 = .ok (.iload_n 2, 1) := by decide +kernel
theorem dX3_include_141 : decode cX3_include 141 = .ok (.iastore, 1) := by decide +kernel
theorem dX3_include_142 : decode cX3_include 142 = .ok (.aload_n 0, 1) := by decide +kernel
theorem dX3_include_143 : decode cX3_include 143 = .ok (.dup, 1) := by decide +kernel
theorem dX3_include_144 : decode cX3_include 144 = .ok (.getfield 21, 3) := by decide +kernel
theorem dX3_include_147 : decode cX3_include 147 = .ok (.iconst 1, 1) := by decide +kernel
theorem dX3_include_148 : decode cX3_include 148 = .ok (.iadd, 1) := by decide +kernel
theorem dX3_include_149 : decode cX3_include 149 = .ok (.putfield 21, 3) := by decide +kernel
theorem dX3_include_152 : decode cX3_include 152 = .ok (.return_, 1) := by decide +kernel
theorem dX3_comesBehind_0 : decode cX3_comesBehind 0 = .ok (.aload_n 0, 1) := by decide +kernel
theorem dX3_comesBehind_1 : decode cX3_comesBehind 1 = .ok (.getfield 15, 3) := by decide +kernel
theorem dX3_comesBehind_4 : decode cX3_comesBehind 4 = .ok (.iload_n 1, 1) := by decide +kernel
theorem dX3_comesBehind_5 : decode cX3_comesBehind 5 = .ok (.iaload, 1) := by decide +kernel
theorem dX3_comesBehind_6 : decode cX3_comesBehind 6 = .ok (.iload_n 3, 1) := by decide +kernel
theorem dX3_comesBehind_7 : decode cX3_comesBehind 7 = .ok (.if_icmp .gt 23, 3) := by decide +kernel
theorem dX3_comesBehind_10 : decode cX3_comesBehind 10 = .ok (.aload_n 0, 1) := by decide +kernel
theorem dX3_comesBehind_11 : decode cX3_comesBehind 11 = .ok (.getfield 15, 3) := by decide +kernel
theorem dX3_comesBehind_14 : decode cX3_comesBehind 14 = .ok (.iload_n 1, 1) := by decide +kernel
theorem dX3_comesBehind_15 : decode cX3_comesBehind 15 = .ok (.iaload, 1) := by decide +kernel
theorem dX3_comesBehind_16 : decode cX3_comesBehind 16 = .ok (.iload_n 3, 1) := by decide +kernel
theorem dX3_comesBehind_17 : decode cX3_comesBehind 17 = .ok (.if_icmp .ne 17, 3) := by decide +kernel
theorem dX3_comesBehind_20 : decode cX3_comesBehind 20 = .ok (.aload_n 0, 1) := by decide +kernel
theorem dX3_comesBehind_21 : decode cX3_comesBehind 21 = .ok (.getfield 11, 3) := by decide +kernel
theorem dX3_comesBehind_24 : decode cX3_comesBehind 24 = .ok (.iload_n 1, 1) := by decide +kernel
theorem dX3_comesBehind_25 : decode cX3_comesBehind 25 = .ok (.iaload, 1) := by decide +kernel
theorem dX3_comesBehind_26 : decode cX3_comesBehind 26 = .ok (.iload_n 2, 1) := by decide +kernel
theorem dX3_comesBehind_27 : decode cX3_comesBehind 27 = .ok (.if_icmp .le 7, 3) := by decide +kernel
theorem dX3_comesBehind_30 : decode cX3_comesBehind 30 = .ok (.iconst 1, 1) := by decide +kernel
theorem dX3_comesBehind_31 : decode cX3_comesBehind 31 = .ok (.goto 4, 3) := by decide +kernel
theorem dX3_comesBehind_34 : decode cX3_comesBehind 34 = .ok (.iconst 0, 1) := by decide +kernel
theorem dX3_comesBehind_35 : decode cX3_comesBehind 35 = .ok (.ireturn, 1) := by decide +kernel
theorem dX3_findCorners_0 : decode cX3_findCorners 0 = .ok (.aload_n 0, 1) := by decide +kernel
theorem dX3_findCorners_1 : decode cX3_findCorners 1 = .ok (.iconst 0, 1) := by decide +kernel
theorem dX3_findCorners_2 : decode cX3_findCorners 2 = .ok (.putfield 50, 3) := by decide +kernel
theorem dX3_findCorners_5 : decode cX3_findCorners 5 = .ok (.iconst 0, 1) := by decide +kernel
theorem dX3_findCorners_6 : decode cX3_findCorners 6 = .ok (.istore_n 1, 1) := by decide +kernel
theorem dX3_findCorners_7 : decode cX3_findCorners 7 = .ok (.iload_n 1, 1) := by decide +kernel
theorem dX3_findCorners_8 : decode cX3_findCorners 8 = .ok (.aload_n 0, 1) := by decide +kernel
theorem dX3_findCorners_9 : decode cX3_findCorners 9 = .ok (.getfield 21, 3) := by decide +kernel
theorem dX3_findCorners_12 : decode cX3_findCorners 12 = .ok (.if_icmp .ge 15, 3) := by decide +kernel
theorem dX3_findCorners_15 : decode cX3_findCorners 15 = .ok (.aload_n 0, 1) := by decide +kernel
theorem dX3_findCorners_16 : decode cX3_findCorners 16 = .ok (.iload_n 1, 1) := by decide +kernel
theorem dX3_findCorners_17 : decode cX3_findCorners 17 = .ok (.iconst 1, 1) := by decide +kernel
theorem dX3_findCorners_18 : decode cX3_findCorners 18 = .ok (.invokevirtual 53, 3) := by decide +kernel
theorem dX3_findCorners_21 : decode cX3_findCorners 21 = .ok (.iinc 1 1, 3) := by decide +kernel
theorem dX3_findCorners_24 : decode cX3_findCorners 24 = .ok (.goto (-17), 3) := by decide +kernel
theorem dX3_findCorners_27 : decode cX3_findCorners 27 = .ok (.aload_n 0, 1) := by decide +kernel
theorem dX3_findCorners_28 : decode cX3_findCorners 28 = .ok (.getfield 50, 3) := by decide +kernel
theorem dX3_findCorners_31 : decode cX3_findCorners 31 = .ok (.istore_n 1, 1) := by decide +kernel
theorem dX3_findCorners_32 : decode cX3_findCorners 32 = .ok (.aload_n 0, 1) := by decide +kernel
theorem dX3_findCorners_33 : decode cX3_findCorners 33 = .ok (.getfield 21, 3) := by decide +kernel
theorem dX3_findCorners_36 : decode cX3_findCorners 36 = .ok (.iconst 2, 1) := by decide +kernel
theorem dX3_findCorners_37 : decode cX3_findCorners 37 = .ok (.isub, 1) := by decide +kernel
theorem dX3_findCorners_38 : decode cX3_findCorners 38 = .ok (.istore_n 2, 1) := by decide +kernel
theorem dX3_findCorners_39 : decode cX3_findCorners 39 = .ok (.iload_n 2, 1) := by decide +kernel
theorem dX3_findCorners_40 : decode cX3_findCorners 40 = .ok (.ifCond .lt 15, 3) := by decide +kernel
theorem dX3_findCorners_43 : decode cX3_findCorners 43 = .ok (.aload_n 0, 1) := by decide +kernel
theorem dX3_findCorners_44 : decode cX3_findCorners 44 = .ok (.iload_n 2, 1) := by decide +kernel
theorem dX3_findCorners_45 : decode cX3_findCorners 45 = .ok (.iload_n 1, 1) := by decide +kernel
theorem dX3_findCorners_46 : decode cX3_findCorners 46 = .ok (.invokevirtual 53, 3) := by decide +kernel
theorem dX3_findCorners_49 : decode cX3_findCorners 49 = .ok (.iinc 2 (-1), 3) := by decide +kernel
theorem dX3_findCorners_52 : decode cX3_findCorners 52 = .ok (.goto (-13), 3) := by decide +kernel
theorem dX3_findCorners_55 : decode cX3_findCorners 55 = .ok (.aload_n 0, 1) := by decide +kernel
theorem dX3_findCorners_56 : decode cX3_findCorners 56 = .ok (.getfield 21, 3) := by decide +kernel
theorem dX3_findCorners_59 : decode cX3_findCorners 59 = .ok (.iconst 1, 1) := by decide +kernel
theorem dX3_findCorners_60 : decode cX3_findCorners 60 = .ok (.if_icmp .le 13, 3) := by decide +kernel
theorem dX3_findCorners_63 : decode cX3_findCorners 63 = .ok (.aload_n 0, 1) := by decide +kernel
theorem dX3_findCorners_64 : decode cX3_findCorners 64 = .ok (.dup, 1) := by decide +kernel
theorem dX3_findCorners_65 : decode cX3_findCorners 65 = .ok (.getfield 50, 3) := by decide +kernel
theorem dX3_findCorners_68 : decode cX3_findCorners 68 = .ok (.iconst 1, 1) := by decide +kernel
theorem dX3_findCorners_69 : decode cX3_findCorners 69 = .ok (.isub, 1) := by decide +kernel
theorem dX3_findCorners_70 : decode cX3_findCorners 70 = .ok (.putfield 50, 3) := by decide +kernel
theorem dX3_findCorners_73 : decode cX3_findCorners 73 = .ok (.aload_n 0, 1) := by decide +kernel
theorem dX3_findCorners_74 : decode cX3_findCorners 74 = .ok (.areturn, 1) := by decide +kernel
theorem dX3_turnTo_0 : decode cX3_turnTo 0 = .ok (.aload_n 0, 1) := by decide +kernel
theorem dX3_turnTo_1 : decode cX3_turnTo 1 = .ok (.getfield 50, 3) := by decide +kernel
theorem dX3_turnTo_4 : decode cX3_turnTo 4 = .ok (.iload_n 2, 1) := by decide +kernel
theorem dX3_turnTo_5 : decode cX3_turnTo 5 = .ok (.if_icmp .le 46, 3) := by decide +kernel
theorem dX3_turnTo_8 : decode cX3_turnTo 8 = .ok (.aload_n 0, 1) := by decide +kernel
theorem dX3_turnTo_9 : decode cX3_turnTo 9 = .ok (.aload_n 0, 1) := by decide +kernel
theorem dX3_turnTo_10 : decode cX3_turnTo 10 = .ok (.getfield 18, 3) := by decide +kernel
theorem dX3_turnTo_13 : decode cX3_turnTo 13 = .ok (.aload_n 0, 1) := by decide +kernel
theorem dX3_turnTo_14 : decode cX3_turnTo 14 = .ok (.getfield 50, 3) := by decide +kernel
theorem dX3_turnTo_17 : decode cX3_turnTo 17 = .ok (.iconst 2, 1) := by decide +kernel
theorem dX3_turnTo_18 : decode cX3_turnTo 18 = .ok (.isub, 1) := by decide +kernel
theorem dX3_turnTo_19 : decode cX3_turnTo 19 = .ok (.iaload, 1) := by decide +kernel
theorem dX3_turnTo_20 : decode cX3_turnTo 20 = .ok (.aload_n 0, 1) := by decide +kernel
theorem dX3_turnTo_21 : decode cX3_turnTo 21 = .ok (.getfield 18, 3) := by decide +kernel
theorem dX3_turnTo_24 : decode cX3_turnTo 24 = .ok (.aload_n 0, 1) := by decide +kernel
theorem dX3_turnTo_25 : decode cX3_turnTo 25 = .ok (.getfield 50, 3) := by decide +kernel
theorem dX3_turnTo_28 : decode cX3_turnTo 28 = .ok (.iconst 1, 1) := by decide +kernel
theorem dX3_turnTo_29 : decode cX3_turnTo 29 = .ok (.isub, 1) := by decide +kernel
theorem dX3_turnTo_30 : decode cX3_turnTo 30 = .ok (.iaload, 1) := by decide +kernel
theorem dX3_turnTo_31 : decode cX3_turnTo 31 = .ok (.iload_n 1, 1) := by decide +kernel
theorem dX3_turnTo_32 : decode cX3_turnTo 32 = .ok (.invokevirtual 56, 3) := by decide +kernel
theorem dX3_turnTo_35 : decode cX3_turnTo 35 = .ok (.ifCond .ne 16, 3) := by decide +kernel
theorem dX3_turnTo_38 : decode cX3_turnTo 38 = .ok (.aload_n 0, 1) := by decide +kernel
theorem dX3_turnTo_39 : decode cX3_turnTo 39 = .ok (.dup, 1) := by decide +kernel
theorem dX3_turnTo_40 : decode cX3_turnTo 40 = .ok (.getfield 50, 3) := by decide +kernel
theorem dX3_turnTo_43 : decode cX3_turnTo 43 = .ok (.iconst 1, 1) := by decide +kernel
theorem dX3_turnTo_44 : decode cX3_turnTo 44 = .ok (.isub, 1) := by decide +kernel
theorem dX3_turnTo_45 : decode cX3_turnTo 45 = .ok (.putfield 50, 3) := by decide +kernel
theorem dX3_turnTo_48 : decode cX3_turnTo 48 = .ok (.goto (-48), 3) := by decide +kernel
theorem dX3_turnTo_51 : decode cX3_turnTo 51 = .ok (.aload_n 0, 1) := by decide +kernel
theorem dX3_turnTo_52 : decode cX3_turnTo 52 = .ok (.getfield 50, 3) := by decide +kernel
theorem dX3_turnTo_55 : decode cX3_turnTo 55 = .ok (.aload_n 0, 1) := by decide +kernel
theorem dX3_turnTo_56 : decode cX3_turnTo 56 = .ok (.getfield 18, 3) := by decide +kernel
theorem dX3_turnTo_59 : decode cX3_turnTo 59 = .ok (.arraylength, 1) := by decide +kernel
theorem dX3_turnTo_60 : decode cX3_turnTo 60 = .ok (.if_icmp .ge 23, 3) := by decide +kernel
theorem dX3_turnTo_63 : decode cX3_turnTo 63 = .ok (.aload_n 0, 1) := by decide +kernel
theorem dX3_turnTo_64 : decode cX3_turnTo 64 = .ok (.getfield 18, 3) := by decide +kernel
theorem dX3_turnTo_67 : decode cX3_turnTo 67 = .ok (.aload_n 0, 1) := by decide +kernel
theorem dX3_turnTo_68 : decode cX3_turnTo 68 = .ok (.getfield 50, 3) := by decide +kernel
theorem dX3_turnTo_71 : decode cX3_turnTo 71 = .ok (.iload_n 1, 1) := by decide +kernel
theorem dX3_turnTo_72 : decode cX3_turnTo 72 = .ok (.iastore, 1) := by decide +kernel
theorem dX3_turnTo_73 : decode cX3_turnTo 73 = .ok (.aload_n 0, 1) := by decide +kernel
theorem dX3_turnTo_74 : decode cX3_turnTo 74 = .ok (.dup, 1) := by decide +kernel
theorem dX3_turnTo_75 : decode cX3_turnTo 75 = .ok (.getfield 50, 3) := by decide +kernel
theorem dX3_turnTo_78 : decode cX3_turnTo 78 = .ok (.iconst 1, 1) := by decide +kernel
theorem dX3_turnTo_79 : decode cX3_turnTo 79 = .ok (.iadd, 1) := by decide +kernel
theorem dX3_turnTo_80 : decode cX3_turnTo 80 = .ok (.putfield 50, 3) := by decide +kernel
theorem dX3_turnTo_83 : decode cX3_turnTo 83 = .ok (.return_, 1) := by decide +kernel
theorem dX3_turnsLeft_0 : decode cX3_turnsLeft 0 = .ok (.aload_n 0, 1) := by decide +kernel
theorem dX3_turnsLeft_1 : decode cX3_turnsLeft 1 = .ok (.getfield 11, 3) := by decide +kernel
theorem dX3_turnsLeft_4 : decode cX3_turnsLeft 4 = .ok (.iload_n 2, 1) := by decide +kernel
theorem dX3_turnsLeft_5 : decode cX3_turnsLeft 5 = .ok (.iaload, 1) := by decide +kernel
theorem dX3_turnsLeft_6 : decode cX3_turnsLeft 6 = .ok (.aload_n 0, 1) := by decide +kernel
theorem dX3_turnsLeft_7 : decode cX3_turnsLeft 7 = .ok (.getfield 11, 3) := by decide +kernel
theorem dX3_turnsLeft_10 : decode cX3_turnsLeft 10 = .ok (.iload_n 1, 1) := by decide +kernel
theorem dX3_turnsLeft_11 : decode cX3_turnsLeft 11 = .ok (.iaload, 1) := by decide +kernel
theorem dX3_turnsLeft_12 : decode cX3_turnsLeft 12 = .ok (.isub, 1) := by decide +kernel
theorem dX3_turnsLeft_13 : decode cX3_turnsLeft 13 = .ok (.aload_n 0, 1) := by decide +kernel
theorem dX3_turnsLeft_14 : decode cX3_turnsLeft 14 = .ok (.getfield 15, 3) := by decide +kernel
theorem dX3_turnsLeft_17 : decode cX3_turnsLeft 17 = .ok (.iload_n 3, 1) := by decide +kernel
theorem dX3_turnsLeft_18 : decode cX3_turnsLeft 18 = .ok (.iaload, 1) := by decide +kernel
theorem dX3_turnsLeft_19 : decode cX3_turnsLeft 19 = .ok (.aload_n 0, 1) := by decide +kernel
theorem dX3_turnsLeft_20 : decode cX3_turnsLeft 20 = .ok (.getfield 15, 3) := by decide +kernel
theorem dX3_turnsLeft_23 : decode cX3_turnsLeft 23 = .ok (.iload_n 1, 1) := by decide +kernel
theorem dX3_turnsLeft_24 : decode cX3_turnsLeft 24 = .ok (.iaload, 1) := by decide +kernel
theorem dX3_turnsLeft_25 : decode cX3_turnsLeft 25 = .ok (.isub, 1) := by decide +kernel
theorem dX3_turnsLeft_26 : decode cX3_turnsLeft 26 = .ok (.imul, 1) := by decide +kernel
theorem dX3_turnsLeft_27 : decode cX3_turnsLeft 27 = .ok (.aload_n 0, 1) := by decide +kernel
theorem dX3_turnsLeft_28 : decode cX3_turnsLeft 28 = .ok (.getfield 15, 3) := by decide +kernel
theorem dX3_turnsLeft_31 : decode cX3_turnsLeft 31 = .ok (.iload_n 2, 1) := by decide +kernel
theorem dX3_turnsLeft_32 : decode cX3_turnsLeft 32 = .ok (.iaload, 1) := by decide +kernel
theorem dX3_turnsLeft_33 : decode cX3_turnsLeft 33 = .ok (.aload_n 0, 1) := by decide +kernel
theorem dX3_turnsLeft_34 : decode cX3_turnsLeft 34 = .ok (.getfield 15, 3) := by decide +kernel
theorem dX3_turnsLeft_37 : decode cX3_turnsLeft 37 = .ok (.iload_n 1, 1) := by decide +kernel
theorem dX3_turnsLeft_38 : decode cX3_turnsLeft 38 = .ok (.iaload, 1) := by decide +kernel
theorem dX3_turnsLeft_39 : decode cX3_turnsLeft 39 = .ok (.isub, 1) := by decide +kernel
theorem dX3_turnsLeft_40 : decode cX3_turnsLeft 40 = .ok (.aload_n 0, 1) := by decide +kernel
theorem dX3_turnsLeft_41 : decode cX3_turnsLeft 41 = .ok (.getfield 11, 3) := by decide +kernel
theorem dX3_turnsLeft_44 : decode cX3_turnsLeft 44 = .ok (.iload_n 3, 1) := by decide +kernel
theorem dX3_turnsLeft_45 : decode cX3_turnsLeft 45 = .ok (.iaload, 1) := by decide +kernel
theorem dX3_turnsLeft_46 : decode cX3_turnsLeft 46 = .ok (.aload_n 0, 1) := by decide +kernel
theorem dX3_turnsLeft_47 : decode cX3_turnsLeft 47 = .ok (.getfield 11, 3) := by decide +kernel
theorem dX3_turnsLeft_50 : decode cX3_turnsLeft 50 = .ok (.iload_n 1, 1) := by decide +kernel
theorem dX3_turnsLeft_51 : decode cX3_turnsLeft 51 = .ok (.iaload, 1) := by decide +kernel
theorem dX3_turnsLeft_52 : decode cX3_turnsLeft 52 = .ok (.isub, 1) := by decide +kernel
theorem dX3_turnsLeft_53 : decode cX3_turnsLeft 53 = .ok (.imul, 1) := by decide +kernel
theorem dX3_turnsLeft_54 : decode cX3_turnsLeft 54 = .ok (.if_icmp .le 7, 3) := by decide +kernel
theorem dX3_turnsLeft_57 : decode cX3_turnsLeft 57 = .ok (.iconst 1, 1) := by decide +kernel
theorem dX3_turnsLeft_58 : decode cX3_turnsLeft 58 = .ok (.goto 4, 3) := by decide +kernel
theorem dX3_turnsLeft_61 : decode cX3_turnsLeft 61 = .ok (.iconst 0, 1) := by decide +kernel
theorem dX3_turnsLeft_62 : decode cX3_turnsLeft 62 = .ok (.ireturn, 1) := by decide +kernel
theorem dX3_hasCorner_0 : decode cX3_hasCorner 0 = .ok (.iload_n 1, 1) := by decide +kernel
theorem dX3_hasCorner_1 : decode cX3_hasCorner 1 = .ok (.ifCond .lt 15, 3) := by decide +kernel
theorem dX3_hasCorner_4 : decode cX3_hasCorner 4 = .ok (.iload_n 1, 1) := by decide +kernel
theorem dX3_hasCorner_5 : decode cX3_hasCorner 5 = .ok (.aload_n 0, 1) := by decide +kernel
theorem dX3_hasCorner_6 : decode cX3_hasCorner 6 = .ok (.getfield 50, 3) := by decide +kernel
theorem dX3_hasCorner_9 : decode cX3_hasCorner 9 = .ok (.if_icmp .ge 7, 3) := by decide +kernel
theorem dX3_hasCorner_12 : decode cX3_hasCorner 12 = .ok (.iconst 1, 1) := by decide +kernel
theorem dX3_hasCorner_13 : decode cX3_hasCorner 13 = .ok (.goto 4, 3) := by decide +kernel
theorem dX3_hasCorner_16 : decode cX3_hasCorner 16 = .ok (.iconst 0, 1) := by decide +kernel
theorem dX3_hasCorner_17 : decode cX3_hasCorner 17 = .ok (.ireturn, 1) := by decide +kernel
theorem dX3_cornerX_0 : decode cX3_cornerX 0 = .ok (.aload_n 0, 1) := by decide +kernel
theorem dX3_cornerX_1 : decode cX3_cornerX 1 = .ok (.iload_n 1, 1) := by decide +kernel
theorem dX3_cornerX_2 : decode cX3_cornerX 2 = .ok (.invokevirtual 59, 3) := by decide +kernel
theorem dX3_cornerX_5 : decode cX3_cornerX 5 = .ok (.ifCond .eq 17, 3) := by decide +kernel
theorem dX3_cornerX_8 : decode cX3_cornerX 8 = .ok (.aload_n 0, 1) := by decide +kernel
theorem dX3_cornerX_9 : decode cX3_cornerX 9 = .ok (.getfield 11, 3) := by decide +kernel
theorem dX3_cornerX_12 : decode cX3_cornerX 12 = .ok (.aload_n 0, 1) := by decide +kernel
theorem dX3_cornerX_13 : decode cX3_cornerX 13 = .ok (.getfield 18, 3) := by decide +kernel
theorem dX3_cornerX_16 : decode cX3_cornerX 16 = .ok (.iload_n 1, 1) := by decide +kernel
theorem dX3_cornerX_17 : decode cX3_cornerX 17 = .ok (.iaload, 1) := by decide +kernel
theorem dX3_cornerX_18 : decode cX3_cornerX 18 = .ok (.iaload, 1) := by decide +kernel
theorem dX3_cornerX_19 : decode cX3_cornerX 19 = .ok (.goto 4, 3) := by decide +kernel
theorem dX3_cornerX_22 : decode cX3_cornerX 22 = .ok (.iconst 0, 1) := by decide +kernel
theorem dX3_cornerX_23 : decode cX3_cornerX 23 = .ok (.ireturn, 1) := by decide +kernel
theorem dX3_cornerY_0 : decode cX3_cornerY 0 = .ok (.aload_n 0, 1) := by decide +kernel
theorem dX3_cornerY_1 : decode cX3_cornerY 1 = .ok (.iload_n 1, 1) := by decide +kernel
theorem dX3_cornerY_2 : decode cX3_cornerY 2 = .ok (.invokevirtual 59, 3) := by decide +kernel
theorem dX3_cornerY_5 : decode cX3_cornerY 5 = .ok (.ifCond .eq 17, 3) := by decide +kernel
theorem dX3_cornerY_8 : decode cX3_cornerY 8 = .ok (.aload_n 0, 1) := by decide +kernel
theorem dX3_cornerY_9 : decode cX3_cornerY 9 = .ok (.getfield 15, 3) := by decide +kernel
theorem dX3_cornerY_12 : decode cX3_cornerY 12 = .ok (.aload_n 0, 1) := by decide +kernel
theorem dX3_cornerY_13 : decode cX3_cornerY 13 = .ok (.getfield 18, 3) := by decide +kernel
theorem dX3_cornerY_16 : decode cX3_cornerY 16 = .ok (.iload_n 1, 1) := by decide +kernel
theorem dX3_cornerY_17 : decode cX3_cornerY 17 = .ok (.iaload, 1) := by decide +kernel
theorem dX3_cornerY_18 : decode cX3_cornerY 18 = .ok (.iaload, 1) := by decide +kernel
theorem dX3_cornerY_19 : decode cX3_cornerY 19 = .ok (.goto 4, 3) := by decide +kernel
theorem dX3_cornerY_22 : decode cX3_cornerY 22 = .ok (.iconst 0, 1) := by decide +kernel
theorem dX3_cornerY_23 : decode cX3_cornerY 23 = .ok (.ireturn, 1) := by decide +kernel
theorem dX3_next_0 : decode cX3_next 0 = .ok (.iload_n 1, 1) := by decide +kernel
theorem dX3_next_1 : decode cX3_next 1 = .ok (.iconst 1, 1) := by decide +kernel
theorem dX3_next_2 : decode cX3_next 2 = .ok (.iadd, 1) := by decide +kernel
theorem dX3_next_3 : decode cX3_next 3 = .ok (.aload_n 0, 1) := by decide +kernel
theorem dX3_next_4 : decode cX3_next 4 = .ok (.getfield 50, 3) := by decide +kernel
theorem dX3_next_7 : decode cX3_next 7 = .ok (.if_icmp .ge 9, 3) := by decide +kernel
theorem dX3_next_10 : decode cX3_next 10 = .ok (.iload_n 1, 1) := by decide +kernel
theorem dX3_next_11 : decode cX3_next 11 = .ok (.iconst 1, 1) := by decide +kernel
theorem dX3_next_12 : decode cX3_next 12 = .ok (.iadd, 1) := by decide +kernel
theorem dX3_next_13 : decode cX3_next 13 = .ok (.goto 4, 3) := by decide +kernel
theorem dX3_next_16 : decode cX3_next 16 = .ok (.iconst 0, 1) := by decide +kernel
theorem dX3_next_17 : decode cX3_next 17 = .ok (.ireturn, 1) := by decide +kernel
theorem dX3_area_0 : decode cX3_area 0 = .ok (.iconst 0, 1) := by decide +kernel
theorem dX3_area_1 : decode cX3_area 1 = .ok (.istore_n 1, 1) := by decide +kernel
theorem dX3_area_2 : decode cX3_area 2 = .ok (.iconst 0, 1) := by decide +kernel
theorem dX3_area_3 : decode cX3_area 3 = .ok (.istore_n 2, 1) := by decide +kernel
theorem dX3_area_4 : decode cX3_area 4 = .ok (.iload_n 2, 1) := by decide +kernel
theorem dX3_area_5 : decode cX3_area 5 = .ok (.aload_n 0, 1) := by decide +kernel
theorem dX3_area_6 : decode cX3_area 6 = .ok (.getfield 50, 3) := by decide +kernel
theorem dX3_area_9 : decode cX3_area 9 = .ok (.if_icmp .ge 41, 3) := by decide +kernel
theorem dX3_area_12 : decode cX3_area 12 = .ok (.aload_n 0, 1) := by decide +kernel
theorem dX3_area_13 : decode cX3_area 13 = .ok (.iload_n 2, 1) := by decide +kernel
theorem dX3_area_14 : decode cX3_area 14 = .ok (.invokevirtual 63, 3) := by decide +kernel
theorem dX3_area_17 : decode cX3_area 17 = .ok (.istore_n 3, 1) := by decide +kernel
theorem dX3_area_18 : decode cX3_area 18 = .ok (.iload_n 1, 1) := by decide +kernel
theorem dX3_area_19 : decode cX3_area 19 = .ok (.aload_n 0, 1) := by decide +kernel
theorem dX3_area_20 : decode cX3_area 20 = .ok (.iload_n 2, 1) := by decide +kernel
theorem dX3_area_21 : decode cX3_area 21 = .ok (.invokevirtual 67, 3) := by decide +kernel
theorem dX3_area_24 : decode cX3_area 24 = .ok (.aload_n 0, 1) := by decide +kernel
theorem dX3_area_25 : decode cX3_area 25 = .ok (.iload_n 3, 1) := by decide +kernel
theorem dX3_area_26 : decode cX3_area 26 = .ok (.invokevirtual 70, 3) := by decide +kernel
theorem dX3_area_29 : decode cX3_area 29 = .ok (.imul, 1) := by decide +kernel
theorem dX3_area_30 : decode cX3_area 30 = .ok (.aload_n 0, 1) := by decide +kernel
theorem dX3_area_31 : decode cX3_area 31 = .ok (.iload_n 3, 1) := by decide +kernel
theorem dX3_area_32 : decode cX3_area 32 = .ok (.invokevirtual 67, 3) := by decide +kernel
theorem dX3_area_35 : decode cX3_area 35 = .ok (.aload_n 0, 1) := by decide +kernel
theorem dX3_area_36 : decode cX3_area 36 = .ok (.iload_n 2, 1) := by decide +kernel
theorem dX3_area_37 : decode cX3_area 37 = .ok (.invokevirtual 70, 3) := by decide +kernel
theorem dX3_area_40 : decode cX3_area 40 = .ok (.imul, 1) := by decide +kernel
theorem dX3_area_41 : decode cX3_area 41 = .ok (.isub, 1) := by decide +kernel
theorem dX3_area_42 : decode cX3_area 42 = .ok (.iadd, 1) := by decide +kernel
theorem dX3_area_43 : decode cX3_area 43 = .ok (.istore_n 1, 1) := by decide +kernel
theorem dX3_area_44 : decode cX3_area 44 = .ok (.iinc 2 1, 3) := by decide +kernel
theorem dX3_area_47 : decode cX3_area 47 = .ok (.goto (-43), 3) := by decide +kernel
theorem dX3_area_50 : decode cX3_area 50 = .ok (.iload_n 1, 1) := by decide +kernel
theorem dX3_area_51 : decode cX3_area 51 = .ok (.ireturn, 1) := by decide +kernel
theorem dX3_span_0 : decode cX3_span 0 = .ok (.aload_n 0, 1) := by decide +kernel
theorem dX3_span_1 : decode cX3_span 1 = .ok (.getfield 50, 3) := by decide +kernel
theorem dX3_span_4 : decode cX3_span 4 = .ok (.ifCond .ne 8, 3) := by decide +kernel
theorem dX3_span_7 : decode cX3_span 7 = .ok (.bipush (-6), 2) := by decide +kernel
theorem dX3_span_9 : decode cX3_span 9 = .ok (.goto 13, 3) := by decide +kernel
theorem dX3_span_12 : decode cX3_span 12 = .ok (.aload_n 0, 1) := by decide +kernel
theorem dX3_span_13 : decode cX3_span 13 = .ok (.getfield 50, 3) := by decide +kernel
theorem dX3_span_16 : decode cX3_span 16 = .ok (.iconst 3, 1) := by decide +kernel
theorem dX3_span_17 : decode cX3_span 17 = .ok (.invokestatic 73, 3) := by decide +kernel
theorem dX3_span_20 : decode cX3_span 20 = .ok (.iconst 1, 1) := by decide +kernel
theorem dX3_span_21 : decode cX3_span 21 = .ok (.isub, 1) := by decide +kernel
theorem dX3_span_22 : decode cX3_span 22 = .ok (.ireturn, 1) := by decide +kernel
theorem dX3_stepsRound_0 : decode cX3_stepsRound 0 = .ok (.iconst 0, 1) := by decide +kernel
theorem dX3_stepsRound_1 : decode cX3_stepsRound 1 = .ok (.istore_n 1, 1) := by decide +kernel
theorem dX3_stepsRound_2 : decode cX3_stepsRound 2 = .ok (.iconst 0, 1) := by decide +kernel
theorem dX3_stepsRound_3 : decode cX3_stepsRound 3 = .ok (.istore_n 2, 1) := by decide +kernel
theorem dX3_stepsRound_4 : decode cX3_stepsRound 4 = .ok (.iload_n 2, 1) := by decide +kernel
theorem dX3_stepsRound_5 : decode cX3_stepsRound 5 = .ok (.aload_n 0, 1) := by decide +kernel
theorem dX3_stepsRound_6 : decode cX3_stepsRound 6 = .ok (.getfield 50, 3) := by decide +kernel
theorem dX3_stepsRound_9 : decode cX3_stepsRound 9 = .ok (.if_icmp .ge 57, 3) := by decide +kernel
theorem dX3_stepsRound_12 : decode cX3_stepsRound 12 = .ok (.aload_n 0, 1) := by decide +kernel
theorem dX3_stepsRound_13 : decode cX3_stepsRound 13 = .ok (.aload_n 0, 1) := by decide +kernel
theorem dX3_stepsRound_14 : decode cX3_stepsRound 14 = .ok (.iload_n 2, 1) := by decide +kernel
theorem dX3_stepsRound_15 : decode cX3_stepsRound 15 = .ok (.invokevirtual 63, 3) := by decide +kernel
theorem dX3_stepsRound_18 : decode cX3_stepsRound 18 = .ok (.invokevirtual 67, 3) := by decide +kernel
theorem dX3_stepsRound_21 : decode cX3_stepsRound 21 = .ok (.aload_n 0, 1) := by decide +kernel
theorem dX3_stepsRound_22 : decode cX3_stepsRound 22 = .ok (.iload_n 2, 1) := by decide +kernel
theorem dX3_stepsRound_23 : decode cX3_stepsRound 23 = .ok (.invokevirtual 67, 3) := by decide +kernel
theorem dX3_stepsRound_26 : decode cX3_stepsRound 26 = .ok (.isub, 1) := by decide +kernel
theorem dX3_stepsRound_27 : decode cX3_stepsRound 27 = .ok (.invokestatic 79, 3) := by decide +kernel
theorem dX3_stepsRound_30 : decode cX3_stepsRound 30 = .ok (.istore_n 3, 1) := by decide +kernel
theorem dX3_stepsRound_31 : decode cX3_stepsRound 31 = .ok (.aload_n 0, 1) := by decide +kernel
theorem dX3_stepsRound_32 : decode cX3_stepsRound 32 = .ok (.aload_n 0, 1) := by decide +kernel
theorem dX3_stepsRound_33 : decode cX3_stepsRound 33 = .ok (.iload_n 2, 1) := by decide +kernel
theorem dX3_stepsRound_34 : decode cX3_stepsRound 34 = .ok (.invokevirtual 63, 3) := by decide +kernel
theorem dX3_stepsRound_37 : decode cX3_stepsRound 37 = .ok (.invokevirtual 70, 3) := by decide +kernel
theorem dX3_stepsRound_40 : decode cX3_stepsRound 40 = .ok (.aload_n 0, 1) := by decide +kernel
theorem dX3_stepsRound_41 : decode cX3_stepsRound 41 = .ok (.iload_n 2, 1) := by decide +kernel
theorem dX3_stepsRound_42 : decode cX3_stepsRound 42 = .ok (.invokevirtual 70, 3) := by decide +kernel
theorem dX3_stepsRound_45 : decode cX3_stepsRound 45 = .ok (.isub, 1) := by decide +kernel
theorem dX3_stepsRound_46 : decode cX3_stepsRound 46 = .ok (.invokestatic 79, 3) := by decide +kernel
theorem dX3_stepsRound_49 : decode cX3_stepsRound 49 = .ok (.istore 4, 2) := by decide +kernel
theorem dX3_stepsRound_51 : decode cX3_stepsRound 51 = .ok (.iload_n 1, 1) := by decide +kernel
theorem dX3_stepsRound_52 : decode cX3_stepsRound 52 = .ok (.iload_n 3, 1) := by decide +kernel
theorem dX3_stepsRound_53 : decode cX3_stepsRound 53 = .ok (.iload 4, 2) := by decide +kernel
theorem dX3_stepsRound_55 : decode cX3_stepsRound 55 = .ok (.invokestatic 82, 3) := by decide +kernel
theorem dX3_stepsRound_58 : decode cX3_stepsRound 58 = .ok (.iadd, 1) := by decide +kernel
theorem dX3_stepsRound_59 : decode cX3_stepsRound 59 = .ok (.istore_n 1, 1) := by decide +kernel
theorem dX3_stepsRound_60 : decode cX3_stepsRound 60 = .ok (.iinc 2 1, 3) := by decide +kernel
theorem dX3_stepsRound_63 : decode cX3_stepsRound 63 = .ok (.goto (-59), 3) := by decide +kernel
theorem dX3_stepsRound_66 : decode cX3_stepsRound 66 = .ok (.iload_n 1, 1) := by decide +kernel
theorem dX3_stepsRound_67 : decode cX3_stepsRound 67 = .ok (.ireturn, 1) := by decide +kernel
theorem dX3_wholePoints_0 : decode cX3_wholePoints 0 = .ok (.aload_n 0, 1) := by decide +kernel
theorem dX3_wholePoints_1 : decode cX3_wholePoints 1 = .ok (.getfield 50, 3) := by decide +kernel
theorem dX3_wholePoints_4 : decode cX3_wholePoints 4 = .ok (.ifCond .ne 7, 3) := by decide +kernel
theorem dX3_wholePoints_7 : decode cX3_wholePoints 7 = .ok (.iconst 0, 1) := by decide +kernel
theorem dX3_wholePoints_8 : decode cX3_wholePoints 8 = .ok (.goto 16, 3) := by decide +kernel
theorem dX3_wholePoints_11 : decode cX3_wholePoints 11 = .ok (.aload_n 0, 1) := by decide +kernel
theorem dX3_wholePoints_12 : decode cX3_wholePoints 12 = .ok (.invokevirtual 85, 3) := by decide +kernel
theorem dX3_wholePoints_15 : decode cX3_wholePoints 15 = .ok (.aload_n 0, 1) := by decide +kernel
theorem dX3_wholePoints_16 : decode cX3_wholePoints 16 = .ok (.invokevirtual 88, 3) := by decide +kernel
theorem dX3_wholePoints_19 : decode cX3_wholePoints 19 = .ok (.iadd, 1) := by decide +kernel
theorem dX3_wholePoints_20 : decode cX3_wholePoints 20 = .ok (.iconst 2, 1) := by decide +kernel
theorem dX3_wholePoints_21 : decode cX3_wholePoints 21 = .ok (.idiv, 1) := by decide +kernel
theorem dX3_wholePoints_22 : decode cX3_wholePoints 22 = .ok (.iconst 1, 1) := by decide +kernel
theorem dX3_wholePoints_23 : decode cX3_wholePoints 23 = .ok (.iadd, 1) := by decide +kernel
theorem dX3_wholePoints_24 : decode cX3_wholePoints 24 = .ok (.ireturn, 1) := by decide +kernel
theorem dX3_rimPoints_0 : decode cX3_rimPoints 0 = .ok (.aload_n 0, 1) := by decide +kernel
theorem dX3_rimPoints_1 : decode cX3_rimPoints 1 = .ok (.getfield 50, 3) := by decide +kernel
theorem dX3_rimPoints_4 : decode cX3_rimPoints 4 = .ok (.iconst 3, 1) := by decide +kernel
theorem dX3_rimPoints_5 : decode cX3_rimPoints 5 = .ok (.if_icmp .ge 10, 3) := by decide +kernel
theorem dX3_rimPoints_8 : decode cX3_rimPoints 8 = .ok (.aload_n 0, 1) := by decide +kernel
theorem dX3_rimPoints_9 : decode cX3_rimPoints 9 = .ok (.invokevirtual 91, 3) := by decide +kernel
theorem dX3_rimPoints_12 : decode cX3_rimPoints 12 = .ok (.goto 7, 3) := by decide +kernel
theorem dX3_rimPoints_15 : decode cX3_rimPoints 15 = .ok (.aload_n 0, 1) := by decide +kernel
theorem dX3_rimPoints_16 : decode cX3_rimPoints 16 = .ok (.invokevirtual 88, 3) := by decide +kernel
theorem dX3_rimPoints_19 : decode cX3_rimPoints 19 = .ok (.ireturn, 1) := by decide +kernel
theorem dX4_init_0 : decode cX4_init 0 = .ok (.aload_n 0, 1) := by decide +kernel
theorem dX4_init_1 : decode cX4_init 1 = .ok (.invokespecial 3, 3) := by decide +kernel
theorem dX4_init_4 : decode cX4_init 4 = .ok (.aload_n 0, 1) := by decide +kernel
theorem dX4_init_5 : decode cX4_init 5 = .ok (.iconst 4, 1) := by decide +kernel
theorem dX4_init_6 : decode cX4_init 6 = .ok (.anewarray 9, 3) := by decide +kernel
theorem dX4_init_9 : decode cX4_init 9 = .ok (.putfield 11, 3) := by decide +kernel
theorem dX4_init_12 : decode cX4_init 12 = .ok (.aload_n 0, 1) := by decide +kernel
theorem dX4_init_13 : decode cX4_init 13 = .ok (.bipush 8, 2) := by decide +kernel
theorem dX4_init_15 : decode cX4_init 15 = .ok (.anewarray 9, 3) := by decide +kernel
theorem dX4_init_18 : decode cX4_init 18 = .ok (.putfield 15, 3) := by decide +kernel
theorem dX4_init_21 : decode cX4_init 21 = .ok (.aload_n 0, 1) := by decide +kernel
theorem dX4_init_22 : decode cX4_init 22 = .ok (.new 18, 3) := by decide +kernel
theorem dX4_init_25 : decode cX4_init 25 = .ok (.dup, 1) := by decide +kernel
theorem dX4_init_26 : decode cX4_init 26 = .ok (.invokespecial 20, 3) := by decide +kernel
theorem dX4_init_29 : decode cX4_init 29 = .ok (.putfield 21, 3) := by decide +kernel
theorem dX4_init_32 : decode cX4_init 32 = .ok (.aload_n 0, 1) := by decide +kernel
theorem dX4_init_33 : decode cX4_init 33 = .ok (.new 25, 3) := by decide +kernel
theorem dX4_init_36 : decode cX4_init 36 = .ok (.dup, 1) := by decide +kernel
theorem dX4_init_37 : decode cX4_init 37 = .ok (.invokespecial 27, 3) := by decide +kernel
theorem dX4_init_40 : decode cX4_init 40 = .ok (.putfield 28, 3) := by decide +kernel
theorem dX4_init_43 : decode cX4_init 43 = .ok (.aload_n 0, 1) := by decide +kernel
theorem dX4_init_44 : decode cX4_init 44 = .ok (.bipush 13, 2) := by decide +kernel
theorem dX4_init_46 : decode cX4_init 46 = .ok (.bipush 13, 2) := by decide +kernel
theorem dX4_init_48 : decode cX4_init 48 = .ok (.multianewarray 32 2, 4) := by decide +kernel
theorem dX4_init_52 : decode cX4_init 52 = .ok (.putfield 34, 3) := by decide +kernel
theorem dX4_init_55 : decode cX4_init 55 = .ok (.iconst 0, 1) := by decide +kernel
theorem dX4_init_56 : decode cX4_init 56 = .ok (.istore_n 1, 1) := by decide +kernel
theorem dX4_init_57 : decode cX4_init 57 = .ok (.iload_n 1, 1) := by decide +kernel
theorem dX4_init_58 : decode cX4_init 58 = .ok (.aload_n 0, 1) := by decide +kernel
theorem dX4_init_59 : decode cX4_init 59 = .ok (.getfield 11, 3) := by decide +kernel
theorem dX4_init_62 : decode cX4_init 62 = .ok (.arraylength, 1) := by decide +kernel
theorem dX4_init_63 : decode cX4_init 63 = .ok (.if_icmp .ge 22, 3) := by decide +kernel
theorem dX4_init_66 : decode cX4_init 66 = .ok (.aload_n 0, 1) := by decide +kernel
theorem dX4_init_67 : decode cX4_init 67 = .ok (.getfield 11, 3) := by decide +kernel
theorem dX4_init_70 : decode cX4_init 70 = .ok (.iload_n 1, 1) := by decide +kernel
theorem dX4_init_71 : decode cX4_init 71 = .ok (.new 9, 3) := by decide +kernel
theorem dX4_init_74 : decode cX4_init 74 = .ok (.dup, 1) := by decide +kernel
theorem dX4_init_75 : decode cX4_init 75 = .ok (.invokespecial 37, 3) := by decide +kernel
theorem dX4_init_78 : decode cX4_init 78 = .ok (.aastore, 1) := by decide +kernel
theorem dX4_init_79 : decode cX4_init 79 = .ok (.iinc 1 1, 3) := by decide +kernel
theorem dX4_init_82 : decode cX4_init 82 = .ok (.goto (-25), 3) := by decide +kernel
theorem dX4_init_85 : decode cX4_init 85 = .ok (.iconst 0, 1) := by decide +kernel
theorem dX4_init_86 : decode cX4_init 86 = .ok (.istore_n 1, 1) := by decide +kernel
theorem dX4_init_87 : decode cX4_init 87 = .ok (.iload_n 1, 1) := by decide +kernel
theorem dX4_init_88 : decode cX4_init 88 = .ok (.aload_n 0, 1) := by decide +kernel
theorem dX4_init_89 : decode cX4_init 89 = .ok (.getfield 15, 3) := by decide +kernel
theorem dX4_init_92 : decode cX4_init 92 = .ok (.arraylength, 1) := by decide +kernel
theorem dX4_init_93 : decode cX4_init 93 = .ok (.if_icmp .ge 22, 3) := by decide +kernel
theorem dX4_init_96 : decode cX4_init 96 = .ok (.aload_n 0, 1) := by decide +kernel
theorem dX4_init_97 : decode cX4_init 97 = .ok (.getfield 15, 3) := by decide +kernel
theorem dX4_init_100 : decode cX4_init 100 = .ok (.iload_n 1, 1) := by decide +kernel
theorem dX4_init_101 : decode cX4_init 101 = .ok (.new 9, 3) := by decide +kernel
theorem dX4_init_104 : decode cX4_init 104 = .ok (.dup, 1) := by decide +kernel
theorem dX4_init_105 : decode cX4_init 105 = .ok (.invokespecial 37, 3) := by decide +kernel
theorem dX4_init_108 : decode cX4_init 108 = .ok (.aastore, 1) := by decide +kernel
theorem dX4_init_109 : decode cX4_init 109 = .ok (.iinc 1 1, 3) := by decide +kernel
theorem dX4_init_112 : decode cX4_init 112 = .ok (.goto (-25), 3) := by decide +kernel
theorem dX4_init_115 : decode cX4_init 115 = .ok (.return_, 1) := by decide +kernel
theorem dX4_put_0 : decode cX4_put 0 = .ok (.aload_n 0, 1) := by decide +kernel
theorem dX4_put_1 : decode cX4_put 1 = .ok (.iload_n 1, 1) := by decide +kernel
theorem dX4_put_2 : decode cX4_put 2 = .ok (.invokevirtual 38, 3) := by decide +kernel
theorem dX4_put_5 : decode cX4_put 5 = .ok (.astore 5, 2) := by decide +kernel
theorem dX4_put_7 : decode cX4_put 7 = .ok (.aload 5, 2) := by decide +kernel
theorem dX4_put_9 : decode cX4_put 9 = .ok (.ifnonnull 5, 3) := by decide +kernel
theorem dX4_put_12 : decode cX4_put 12 = .ok (.iconst (-1), 1) := by decide +kernel
theorem dX4_put_13 : decode cX4_put 13 = .ok (.ireturn, 1) := by decide +kernel
theorem dX4_put_14 : decode cX4_put 14 = .ok (.iload_n 2, 1) := by decide +kernel
theorem dX4_put_15 : decode cX4_put 15 = .ok (.iconst 0, 1) := by decide +kernel
theorem dX4_put_16 : decode cX4_put 16 = .ok (.bipush 12, 2) := by decide +kernel
theorem dX4_put_18 : decode cX4_put 18 = .ok (.invokestatic 42, 3) := by decide +kernel
theorem dX4_put_21 : decode cX4_put 21 = .ok (.ifCond .eq 24, 3) := by decide +kernel
theorem dX4_put_24 : decode cX4_put 24 = .ok (.iload_n 3, 1) := by decide +kernel
theorem dX4_put_25 : decode cX4_put 25 = .ok (.iconst 0, 1) := by decide +kernel
theorem dX4_put_26 : decode cX4_put 26 = .ok (.bipush 12, 2) := by decide +kernel
theorem dX4_put_28 : decode cX4_put 28 = .ok (.invokestatic 42, 3) := by decide +kernel
theorem dX4_put_31 : decode cX4_put 31 = .ok (.ifCond .eq 14, 3) := by decide +kernel
theorem dX4_put_34 : decode cX4_put 34 = .ok (.iload 4, 2) := by decide +kernel
theorem dX4_put_36 : decode cX4_put 36 = .ok (.iconst 0, 1) := by decide +kernel
theorem dX4_put_37 : decode cX4_put 37 = .ok (.bipush 50, 2) := by decide +kernel
theorem dX4_put_39 : decode cX4_put 39 = .ok (.invokestatic 42, 3) := by decide +kernel
theorem dX4_put_42 : decode cX4_put 42 = .ok (.ifCond .ne 6, 3) := by decide +kernel
theorem dX4_put_45 : decode cX4_put 45 = .ok (.bipush (-2), 2) := by decide +kernel
theorem dX4_put_47 : decode cX4_put 47 = .ok (.ireturn, 1) := by decide +kernel
theorem dX4_put_48 : decode cX4_put 48 = .ok (.aload 5, 2) := by decide +kernel
theorem dX4_put_50 : decode cX4_put 50 = .ok (.iload_n 2, 1) := by decide +kernel
theorem dX4_put_51 : decode cX4_put 51 = .ok (.iload_n 3, 1) := by decide +kernel
theorem dX4_put_52 : decode cX4_put 52 = .ok (.invokevirtual 46, 3) := by decide +kernel
theorem dX4_put_55 : decode cX4_put 55 = .ok (.istore 6, 2) := by decide +kernel
theorem dX4_put_57 : decode cX4_put 57 = .ok (.iload 6, 2) := by decide +kernel
theorem dX4_put_59 : decode cX4_put 59 = .ok (.ifCond .ge 28, 3) := by decide +kernel
theorem dX4_put_62 : decode cX4_put 62 = .ok (.aload 5, 2) := by decide +kernel
theorem dX4_put_64 : decode cX4_put 64 = .ok (.getfield 50, 3) := by decide +kernel
theorem dX4_put_67 : decode cX4_put 67 = .ok (.bipush 7, 2) := by decide +kernel
theorem dX4_put_69 : decode cX4_put 69 = .ok (.if_icmp .ge 15, 3) := by decide +kernel
theorem dX4_put_72 : decode cX4_put 72 = .ok (.aload 5, 2) := by decide +kernel
theorem dX4_put_74 : decode cX4_put 74 = .ok (.iload_n 2, 1) := by decide +kernel
theorem dX4_put_75 : decode cX4_put 75 = .ok (.iload_n 3, 1) := by decide +kernel
theorem dX4_put_76 : decode cX4_put 76 = .ok (.iload 4, 2) := by decide +kernel
theorem dX4_put_78 : decode cX4_put 78 = .ok (.invokevirtual 54, 3) := by decide +kernel
theorem dX4_put_81 : decode cX4_put 81 = .ok (.goto 5, 3) := by decide +kernel
theorem dX4_put_84 : decode cX4_put 84 = .ok (.bipush (-4), 2) := by decide +kernel
theorem dX4_put_86 : decode cX4_put 86 = .ok (.ireturn, 1) := by decide +kernel
theorem dX4_put_87 : decode cX4_put 87 = .ok (.aload 5, 2) := by decide +kernel
theorem dX4_put_89 : decode cX4_put 89 = .ok (.getfield 58, 3) := by decide +kernel
theorem dX4_put_92 : decode cX4_put 92 = .ok (.iload 6, 2) := by decide +kernel
theorem dX4_put_94 : decode cX4_put 94 = .ok (.iload 4, 2) := by decide +kernel
theorem dX4_put_96 : decode cX4_put 96 = .ok (.iastore, 1) := by decide +kernel
theorem dX4_put_97 : decode cX4_put 97 = .ok (.iload 6, 2) := by decide +kernel
theorem dX4_put_99 : decode cX4_put 99 = .ok (.ireturn, 1) := by decide +kernel
theorem dX4_take_0 : decode cX4_take 0 = .ok (.aload_n 0, 1) := by decide +kernel
theorem dX4_take_1 : decode cX4_take 1 = .ok (.iload_n 1, 1) := by decide +kernel
theorem dX4_take_2 : decode cX4_take 2 = .ok (.invokevirtual 38, 3) := by decide +kernel
theorem dX4_take_5 : decode cX4_take 5 = .ok (.astore_n 3, 1) := by decide +kernel
theorem dX4_take_6 : decode cX4_take 6 = .ok (.aload_n 3, 1) := by decide +kernel
theorem dX4_take_7 : decode cX4_take 7 = .ok (.ifnonnull 5, 3) := by decide +kernel
theorem dX4_take_10 : decode cX4_take 10 = .ok (.iconst (-1), 1) := by decide +kernel
theorem dX4_take_11 : decode cX4_take 11 = .ok (.ireturn, 1) := by decide +kernel
theorem dX4_take_12 : decode cX4_take 12 = .ok (.aload_n 3, 1) := by decide +kernel
theorem dX4_take_13 : decode cX4_take 13 = .ok (.iload_n 2, 1) := by decide +kernel
theorem dX4_take_14 : decode cX4_take 14 = .ok (.invokevirtual 62, 3) := by decide +kernel
theorem dX4_take_17 : decode cX4_take 17 = .ok (.ifCond .ne 6, 3) := by decide +kernel
theorem dX4_take_20 : decode cX4_take 20 = .ok (.bipush (-2), 2) := by decide +kernel
theorem dX4_take_22 : decode cX4_take 22 = .ok (.ireturn, 1) := by decide +kernel
theorem dX4_take_23 : decode cX4_take 23 = .ok (.aload_n 3, 1) := by decide +kernel
theorem dX4_take_24 : decode cX4_take 24 = .ok (.iload_n 2, 1) := by decide +kernel
theorem dX4_take_25 : decode cX4_take 25 = .ok (.invokevirtual 66, 3) := by decide +kernel
theorem dX4_take_28 : decode cX4_take 28 = .ok (.aload_n 3, 1) := by decide +kernel
theorem dX4_take_29 : decode cX4_take 29 = .ok (.getfield 50, 3) := by decide +kernel
theorem dX4_take_32 : decode cX4_take 32 = .ok (.ireturn, 1) := by decide +kernel
theorem dX4_clear_0 : decode cX4_clear 0 = .ok (.aload_n 0, 1) := by decide +kernel
theorem dX4_clear_1 : decode cX4_clear 1 = .ok (.iload_n 1, 1) := by decide +kernel
theorem dX4_clear_2 : decode cX4_clear 2 = .ok (.invokevirtual 38, 3) := by decide +kernel
theorem dX4_clear_5 : decode cX4_clear 5 = .ok (.astore_n 2, 1) := by decide +kernel
theorem dX4_clear_6 : decode cX4_clear 6 = .ok (.aload_n 2, 1) := by decide +kernel
theorem dX4_clear_7 : decode cX4_clear 7 = .ok (.ifnonnull 5, 3) := by decide +kernel
theorem dX4_clear_10 : decode cX4_clear 10 = .ok (.iconst (-1), 1) := by decide +kernel
theorem dX4_clear_11 : decode cX4_clear 11 = .ok (.ireturn, 1) := by decide +kernel
theorem dX4_clear_12 : decode cX4_clear 12 = .ok (.aload_n 2, 1) := by decide +kernel
theorem dX4_clear_13 : decode cX4_clear 13 = .ok (.getfield 50, 3) := by decide +kernel
theorem dX4_clear_16 : decode cX4_clear 16 = .ok (.istore_n 3, 1) := by decide +kernel
theorem dX4_clear_17 : decode cX4_clear 17 = .ok (.aload_n 2, 1) := by decide +kernel
theorem dX4_clear_18 : decode cX4_clear 18 = .ok (.iconst 0, 1) := by decide +kernel
theorem dX4_clear_19 : decode cX4_clear 19 = .ok (.putfield 50, 3) := by decide +kernel
theorem dX4_clear_22 : decode cX4_clear 22 = .ok (.iload_n 3, 1) := by decide +kernel
theorem dX4_clear_23 : decode cX4_clear 23 = .ok (.ireturn, 1) := by decide +kernel
theorem dX4_point_0 : decode cX4_point 0 = .ok (.aload_n 0, 1) := by decide +kernel
theorem dX4_point_1 : decode cX4_point 1 = .ok (.iload_n 1, 1) := by decide +kernel
theorem dX4_point_2 : decode cX4_point 2 = .ok (.invokevirtual 38, 3) := by decide +kernel
theorem dX4_point_5 : decode cX4_point 5 = .ok (.astore 4, 2) := by decide +kernel
theorem dX4_point_7 : decode cX4_point 7 = .ok (.aload 4, 2) := by decide +kernel
theorem dX4_point_9 : decode cX4_point 9 = .ok (.ifnonnull 5, 3) := by decide +kernel
theorem dX4_point_12 : decode cX4_point 12 = .ok (.iconst (-1), 1) := by decide +kernel
theorem dX4_point_13 : decode cX4_point 13 = .ok (.ireturn, 1) := by decide +kernel
theorem dX4_point_14 : decode cX4_point 14 = .ok (.iload_n 3, 1) := by decide +kernel
theorem dX4_point_15 : decode cX4_point 15 = .ok (.iconst 0, 1) := by decide +kernel
theorem dX4_point_16 : decode cX4_point 16 = .ok (.iconst 2, 1) := by decide +kernel
theorem dX4_point_17 : decode cX4_point 17 = .ok (.invokestatic 42, 3) := by decide +kernel
theorem dX4_point_20 : decode cX4_point 20 = .ok (.ifCond .ne 6, 3) := by decide +kernel
theorem dX4_point_23 : decode cX4_point 23 = .ok (.bipush (-2), 2) := by decide +kernel
theorem dX4_point_25 : decode cX4_point 25 = .ok (.ireturn, 1) := by decide +kernel
theorem dX4_point_26 : decode cX4_point 26 = .ok (.aload 4, 2) := by decide +kernel
theorem dX4_point_28 : decode cX4_point 28 = .ok (.iload_n 2, 1) := by decide +kernel
theorem dX4_point_29 : decode cX4_point 29 = .ok (.invokevirtual 62, 3) := by decide +kernel
theorem dX4_point_32 : decode cX4_point 32 = .ok (.ifCond .ne 6, 3) := by decide +kernel
theorem dX4_point_35 : decode cX4_point 35 = .ok (.bipush (-6), 2) := by decide +kernel
theorem dX4_point_37 : decode cX4_point 37 = .ok (.ireturn, 1) := by decide +kernel
theorem dX4_point_38 : decode cX4_point 38 = .ok (.iload_n 3, 1) := by decide +kernel
theorem dX4_point_39 : decode cX4_point 39 = .ok (.lookupswitch 41 #[(0, 25), (1, 33)], 25) := by decide +kernel
theorem dX4_point_64 : decode cX4_point 64 = .ok (.aload 4, 2) := by decide +kernel
theorem dX4_point_66 : decode cX4_point 66 = .ok (.getfield 70, 3) := by decide +kernel
theorem dX4_point_69 : decode cX4_point 69 = .ok (.iload_n 2, 1) := by decide +kernel
theorem dX4_point_70 : decode cX4_point 70 = .ok (.iaload, 1) := by decide +kernel
theorem dX4_point_71 : decode cX4_point 71 = .ok (.ireturn, 1) := by decide +kernel
theorem dX4_point_72 : decode cX4_point 72 = .ok (.aload 4, 2) := by decide +kernel
theorem dX4_point_74 : decode cX4_point 74 = .ok (.getfield 73, 3) := by decide +kernel
theorem dX4_point_77 : decode cX4_point 77 = .ok (.iload_n 2, 1) := by decide +kernel
theorem dX4_point_78 : decode cX4_point 78 = .ok (.iaload, 1) := by decide +kernel
theorem dX4_point_79 : decode cX4_point 79 = .ok (.ireturn, 1) := by decide +kernel
theorem dX4_point_80 : decode cX4_point 80 = .ok (.aload 4, 2) := by decide +kernel
theorem dX4_point_82 : decode cX4_point 82 = .ok (.getfield 58, 3) := by decide +kernel
theorem dX4_point_85 : decode cX4_point 85 = .ok (.iload_n 2, 1) := by decide +kernel
theorem dX4_point_86 : decode cX4_point 86 = .ok (.iaload, 1) := by decide +kernel
theorem dX4_point_87 : decode cX4_point 87 = .ok (.ireturn, 1) := by decide +kernel
theorem dX4_hull_0 : decode cX4_hull 0 = .ok (.aload_n 0, 1) := by decide +kernel
theorem dX4_hull_1 : decode cX4_hull 1 = .ok (.iload_n 1, 1) := by decide +kernel
theorem dX4_hull_2 : decode cX4_hull 2 = .ok (.invokevirtual 38, 3) := by decide +kernel
theorem dX4_hull_5 : decode cX4_hull 5 = .ok (.astore_n 3, 1) := by decide +kernel
theorem dX4_hull_6 : decode cX4_hull 6 = .ok (.aload_n 3, 1) := by decide +kernel
theorem dX4_hull_7 : decode cX4_hull 7 = .ok (.ifnonnull 5, 3) := by decide +kernel
theorem dX4_hull_10 : decode cX4_hull 10 = .ok (.iconst (-1), 1) := by decide +kernel
theorem dX4_hull_11 : decode cX4_hull 11 = .ok (.ireturn, 1) := by decide +kernel
theorem dX4_hull_12 : decode cX4_hull 12 = .ok (.iload_n 2, 1) := by decide +kernel
theorem dX4_hull_13 : decode cX4_hull 13 = .ok (.iconst 0, 1) := by decide +kernel
theorem dX4_hull_14 : decode cX4_hull 14 = .ok (.iconst 4, 1) := by decide +kernel
theorem dX4_hull_15 : decode cX4_hull 15 = .ok (.invokestatic 42, 3) := by decide +kernel
theorem dX4_hull_18 : decode cX4_hull 18 = .ok (.ifCond .ne 6, 3) := by decide +kernel
theorem dX4_hull_21 : decode cX4_hull 21 = .ok (.bipush (-2), 2) := by decide +kernel
theorem dX4_hull_23 : decode cX4_hull 23 = .ok (.ireturn, 1) := by decide +kernel
theorem dX4_hull_24 : decode cX4_hull 24 = .ok (.aload_n 0, 1) := by decide +kernel
theorem dX4_hull_25 : decode cX4_hull 25 = .ok (.getfield 21, 3) := by decide +kernel
theorem dX4_hull_28 : decode cX4_hull 28 = .ok (.aload_n 3, 1) := by decide +kernel
theorem dX4_hull_29 : decode cX4_hull 29 = .ok (.aload_n 3, 1) := by decide +kernel
theorem dX4_hull_30 : decode cX4_hull 30 = .ok (.invokevirtual 76, 3) := by decide +kernel
theorem dX4_hull_33 : decode cX4_hull 33 = .ok (.invokevirtual 80, 3) := by decide +kernel
theorem dX4_hull_36 : decode cX4_hull 36 = .ok (.pop, 1) := by decide +kernel
theorem dX4_hull_37 : decode cX4_hull 37 = .ok (.iload_n 2, 1) := by decide +kernel
theorem dX4_hull_38 : decode cX4_hull 38 = .ok (.tableswitch 62 0 3 #[30, 38, 46, 54], 30) := by decide +kernel
theorem dX4_hull_68 : decode cX4_hull 68 = .ok (.aload_n 0, 1) := by decide +kernel
theorem dX4_hull_69 : decode cX4_hull 69 = .ok (.getfield 21, 3) := by decide +kernel
theorem dX4_hull_72 : decode cX4_hull 72 = .ok (.invokevirtual 84, 3) := by decide +kernel
theorem dX4_hull_75 : decode cX4_hull 75 = .ok (.ireturn, 1) := by decide +kernel
theorem dX4_hull_76 : decode cX4_hull 76 = .ok (.aload_n 0, 1) := by decide +kernel
theorem dX4_hull_77 : decode cX4_hull 77 = .ok (.getfield 21, 3) := by decide +kernel
theorem dX4_hull_80 : decode cX4_hull 80 = .ok (.getfield 87, 3) := by decide +kernel
theorem dX4_hull_83 : decode cX4_hull 83 = .ok (.ireturn, 1) := by decide +kernel
theorem dX4_hull_84 : decode cX4_hull 84 = .ok (.aload_n 0, 1) := by decide +kernel
theorem dX4_hull_85 : decode cX4_hull 85 = .ok (.getfield 21, 3) := by decide +kernel
theorem dX4_hull_88 : decode cX4_hull 88 = .ok (.invokevirtual 90, 3) := by decide +kernel
theorem dX4_hull_91 : decode cX4_hull 91 = .ok (.ireturn, 1) := by decide +kernel
theorem dX4_hull_92 : decode cX4_hull 92 = .ok (.aload_n 0, 1) := by decide +kernel
theorem dX4_hull_93 : decode cX4_hull 93 = .ok (.getfield 21, 3) := by decide +kernel
theorem dX4_hull_96 : decode cX4_hull 96 = .ok (.invokevirtual 93, 3) := by decide +kernel
theorem dX4_hull_99 : decode cX4_hull 99 = .ok (.ireturn, 1) := by decide +kernel
theorem dX4_hull_100 : decode cX4_hull 100 = .ok (.aload_n 0, 1) := by decide +kernel
theorem dX4_hull_101 : decode cX4_hull 101 = .ok (.getfield 21, 3) := by decide +kernel
theorem dX4_hull_104 : decode cX4_hull 104 = .ok (.invokevirtual 96, 3) := by decide +kernel
theorem dX4_hull_107 : decode cX4_hull 107 = .ok (.ireturn, 1) := by decide +kernel
theorem dX4_corner_0 : decode cX4_corner 0 = .ok (.aload_n 0, 1) := by decide +kernel
theorem dX4_corner_1 : decode cX4_corner 1 = .ok (.iload_n 1, 1) := by decide +kernel
theorem dX4_corner_2 : decode cX4_corner 2 = .ok (.invokevirtual 38, 3) := by decide +kernel
theorem dX4_corner_5 : decode cX4_corner 5 = .ok (.astore_n 3, 1) := by decide +kernel
theorem dX4_corner_6 : decode cX4_corner 6 = .ok (.aload_n 3, 1) := by decide +kernel
theorem dX4_corner_7 : decode cX4_corner 7 = .ok (.ifnonnull 5, 3) := by decide +kernel
theorem dX4_corner_10 : decode cX4_corner 10 = .ok (.iconst (-1), 1) := by decide +kernel
theorem dX4_corner_11 : decode cX4_corner 11 = .ok (.ireturn, 1) := by decide +kernel
theorem dX4_corner_12 : decode cX4_corner 12 = .ok (.aload_n 0, 1) := by decide +kernel
theorem dX4_corner_13 : decode cX4_corner 13 = .ok (.getfield 21, 3) := by decide +kernel
theorem dX4_corner_16 : decode cX4_corner 16 = .ok (.aload_n 3, 1) := by decide +kernel
theorem dX4_corner_17 : decode cX4_corner 17 = .ok (.aload_n 3, 1) := by decide +kernel
theorem dX4_corner_18 : decode cX4_corner 18 = .ok (.invokevirtual 76, 3) := by decide +kernel
theorem dX4_corner_21 : decode cX4_corner 21 = .ok (.invokevirtual 80, 3) := by decide +kernel
theorem dX4_corner_24 : decode cX4_corner 24 = .ok (.pop, 1) := by decide +kernel
theorem dX4_corner_25 : decode cX4_corner 25 = .ok (.aload_n 0, 1) := by decide +kernel
theorem dX4_corner_26 : decode cX4_corner 26 = .ok (.getfield 21, 3) := by decide +kernel
theorem dX4_corner_29 : decode cX4_corner 29 = .ok (.iload_n 2, 1) := by decide +kernel
theorem dX4_corner_30 : decode cX4_corner 30 = .ok (.invokevirtual 99, 3) := by decide +kernel
theorem dX4_corner_33 : decode cX4_corner 33 = .ok (.ifCond .ne 6, 3) := by decide +kernel
theorem dX4_corner_36 : decode cX4_corner 36 = .ok (.bipush (-6), 2) := by decide +kernel
theorem dX4_corner_38 : decode cX4_corner 38 = .ok (.ireturn, 1) := by decide +kernel
theorem dX4_corner_39 : decode cX4_corner 39 = .ok (.aload_n 3, 1) := by decide +kernel
theorem dX4_corner_40 : decode cX4_corner 40 = .ok (.aload_n 0, 1) := by decide +kernel
theorem dX4_corner_41 : decode cX4_corner 41 = .ok (.getfield 21, 3) := by decide +kernel
theorem dX4_corner_44 : decode cX4_corner 44 = .ok (.iload_n 2, 1) := by decide +kernel
theorem dX4_corner_45 : decode cX4_corner 45 = .ok (.invokevirtual 102, 3) := by decide +kernel
theorem dX4_corner_48 : decode cX4_corner 48 = .ok (.aload_n 0, 1) := by decide +kernel
theorem dX4_corner_49 : decode cX4_corner 49 = .ok (.getfield 21, 3) := by decide +kernel
theorem dX4_corner_52 : decode cX4_corner 52 = .ok (.iload_n 2, 1) := by decide +kernel
theorem dX4_corner_53 : decode cX4_corner 53 = .ok (.invokevirtual 106, 3) := by decide +kernel
theorem dX4_corner_56 : decode cX4_corner 56 = .ok (.invokevirtual 46, 3) := by decide +kernel
theorem dX4_corner_59 : decode cX4_corner 59 = .ok (.ireturn, 1) := by decide +kernel
theorem dX4_sum_0 : decode cX4_sum 0 = .ok (.aload_n 0, 1) := by decide +kernel
theorem dX4_sum_1 : decode cX4_sum 1 = .ok (.iload_n 1, 1) := by decide +kernel
theorem dX4_sum_2 : decode cX4_sum 2 = .ok (.invokevirtual 38, 3) := by decide +kernel
theorem dX4_sum_5 : decode cX4_sum 5 = .ok (.astore 4, 2) := by decide +kernel
theorem dX4_sum_7 : decode cX4_sum 7 = .ok (.aload_n 0, 1) := by decide +kernel
theorem dX4_sum_8 : decode cX4_sum 8 = .ok (.iload_n 2, 1) := by decide +kernel
theorem dX4_sum_9 : decode cX4_sum 9 = .ok (.invokevirtual 38, 3) := by decide +kernel
theorem dX4_sum_12 : decode cX4_sum 12 = .ok (.astore 5, 2) := by decide +kernel
theorem dX4_sum_14 : decode cX4_sum 14 = .ok (.aload 4, 2) := by decide +kernel
theorem dX4_sum_16 : decode cX4_sum 16 = .ok (.ifnull 8, 3) := by decide +kernel
theorem dX4_sum_19 : decode cX4_sum 19 = .ok (.aload 5, 2) := by decide +kernel
theorem dX4_sum_21 : decode cX4_sum 21 = .ok (.ifnonnull 5, 3) := by decide +kernel
theorem dX4_sum_24 : decode cX4_sum 24 = .ok (.iconst (-1), 1) := by decide +kernel
theorem dX4_sum_25 : decode cX4_sum 25 = .ok (.ireturn, 1) := by decide +kernel
theorem dX4_sum_26 : decode cX4_sum 26 = .ok (.iload_n 3, 1) := by decide +kernel
theorem dX4_sum_27 : decode cX4_sum 27 = .ok (.iconst 0, 1) := by decide +kernel
theorem dX4_sum_28 : decode cX4_sum 28 = .ok (.iconst 3, 1) := by decide +kernel
theorem dX4_sum_29 : decode cX4_sum 29 = .ok (.invokestatic 42, 3) := by decide +kernel
theorem dX4_sum_32 : decode cX4_sum 32 = .ok (.ifCond .ne 6, 3) := by decide +kernel
theorem dX4_sum_35 : decode cX4_sum 35 = .ok (.bipush (-2), 2) := by decide +kernel
theorem dX4_sum_37 : decode cX4_sum 37 = .ok (.ireturn, 1) := by decide +kernel
theorem dX4_sum_38 : decode cX4_sum 38 = .ok (.iload_n 3, 1) := by decide +kernel
theorem dX4_sum_39 : decode cX4_sum 39 = .ok (.iconst 3, 1) := by decide +kernel
theorem dX4_sum_40 : decode cX4_sum 40 = .ok (.if_icmp .ne 22, 3) := by decide +kernel
theorem dX4_sum_43 : decode cX4_sum 43 = .ok (.aload_n 0, 1) := by decide +kernel
theorem dX4_sum_44 : decode cX4_sum 44 = .ok (.aload 4, 2) := by decide +kernel
theorem dX4_sum_46 : decode cX4_sum 46 = .ok (.aload 4, 2) := by decide +kernel
theorem dX4_sum_48 : decode cX4_sum 48 = .ok (.invokevirtual 76, 3) := by decide +kernel
theorem dX4_sum_51 : decode cX4_sum 51 = .ok (.aload 5, 2) := by decide +kernel
theorem dX4_sum_53 : decode cX4_sum 53 = .ok (.aload 5, 2) := by decide +kernel
theorem dX4_sum_55 : decode cX4_sum 55 = .ok (.invokevirtual 76, 3) := by decide +kernel
theorem dX4_sum_58 : decode cX4_sum 58 = .ok (.invokevirtual 109, 3) := by decide +kernel
theorem dX4_sum_61 : decode cX4_sum 61 = .ok (.ireturn, 1) := by decide +kernel
theorem dX4_sum_62 : decode cX4_sum 62 = .ok (.aload_n 0, 1) := by decide +kernel
theorem dX4_sum_63 : decode cX4_sum 63 = .ok (.getfield 21, 3) := by decide +kernel
theorem dX4_sum_66 : decode cX4_sum 66 = .ok (.aload 4, 2) := by decide +kernel
theorem dX4_sum_68 : decode cX4_sum 68 = .ok (.aload 4, 2) := by decide +kernel
theorem dX4_sum_70 : decode cX4_sum 70 = .ok (.invokevirtual 76, 3) := by decide +kernel
theorem dX4_sum_73 : decode cX4_sum 73 = .ok (.aload 5, 2) := by decide +kernel
theorem dX4_sum_75 : decode cX4_sum 75 = .ok (.aload 5, 2) := by decide +kernel
theorem dX4_sum_77 : decode cX4_sum 77 = .ok (.invokevirtual 76, 3) := by decide +kernel
theorem dX4_sum_80 : decode cX4_sum 80 = .ok (.invokevirtual 113, 3) := by decide +kernel
theorem dX4_sum_83 : decode cX4_sum 83 = .ok (.pop, 1) := by decide +kernel
theorem dX4_sum_84 : decode cX4_sum 84 = .ok (.iload_n 3, 1) := by decide +kernel
theorem dX4_sum_85 : decode cX4_sum 85 = .ok (.lookupswitch 43 #[(0, 27), (1, 35)], 27) := by decide +kernel
theorem dX4_sum_112 : decode cX4_sum 112 = .ok (.aload_n 0, 1) := by decide +kernel
theorem dX4_sum_113 : decode cX4_sum 113 = .ok (.getfield 21, 3) := by decide +kernel
theorem dX4_sum_116 : decode cX4_sum 116 = .ok (.getfield 117, 3) := by decide +kernel
theorem dX4_sum_119 : decode cX4_sum 119 = .ok (.ireturn, 1) := by decide +kernel
theorem dX4_sum_120 : decode cX4_sum 120 = .ok (.aload_n 0, 1) := by decide +kernel
theorem dX4_sum_121 : decode cX4_sum 121 = .ok (.getfield 21, 3) := by decide +kernel
theorem dX4_sum_124 : decode cX4_sum 124 = .ok (.invokevirtual 84, 3) := by decide +kernel
theorem dX4_sum_127 : decode cX4_sum 127 = .ok (.ireturn, 1) := by decide +kernel
theorem dX4_sum_128 : decode cX4_sum 128 = .ok (.aload_n 0, 1) := by decide +kernel
theorem dX4_sum_129 : decode cX4_sum 129 = .ok (.getfield 21, 3) := by decide +kernel
theorem dX4_sum_132 : decode cX4_sum 132 = .ok (.getfield 87, 3) := by decide +kernel
theorem dX4_sum_135 : decode cX4_sum 135 = .ok (.ireturn, 1) := by decide +kernel
theorem dX4_sumCorner_0 : decode cX4_sumCorner 0 = .ok (.aload_n 0, 1) := by decide +kernel
theorem dX4_sumCorner_1 : decode cX4_sumCorner 1 = .ok (.iload_n 1, 1) := by decide +kernel
theorem dX4_sumCorner_2 : decode cX4_sumCorner 2 = .ok (.invokevirtual 38, 3) := by decide +kernel
theorem dX4_sumCorner_5 : decode cX4_sumCorner 5 = .ok (.astore 5, 2) := by decide +kernel
theorem dX4_sumCorner_7 : decode cX4_sumCorner 7 = .ok (.aload_n 0, 1) := by decide +kernel
theorem dX4_sumCorner_8 : decode cX4_sumCorner 8 = .ok (.iload_n 2, 1) := by decide +kernel
theorem dX4_sumCorner_9 : decode cX4_sumCorner 9 = .ok (.invokevirtual 38, 3) := by decide +kernel
theorem dX4_sumCorner_12 : decode cX4_sumCorner 12 = .ok (.astore 6, 2) := by decide +kernel
theorem dX4_sumCorner_14 : decode cX4_sumCorner 14 = .ok (.aload 5, 2) := by decide +kernel
theorem dX4_sumCorner_16 : decode cX4_sumCorner 16 = .ok (.ifnull 8, 3) := by decide +kernel
theorem dX4_sumCorner_19 : decode cX4_sumCorner 19 = .ok (.aload 6, 2) := by decide +kernel
theorem dX4_sumCorner_21 : decode cX4_sumCorner 21 = .ok (.ifnonnull 5, 3) := by decide +kernel
theorem dX4_sumCorner_24 : decode cX4_sumCorner 24 = .ok (.iconst (-1), 1) := by decide +kernel
theorem dX4_sumCorner_25 : decode cX4_sumCorner 25 = .ok (.ireturn, 1) := by decide +kernel
theorem dX4_sumCorner_26 : decode cX4_sumCorner 26 = .ok (.iload 4, 2) := by decide +kernel
theorem dX4_sumCorner_28 : decode cX4_sumCorner 28 = .ok (.iconst 0, 1) := by decide +kernel
theorem dX4_sumCorner_29 : decode cX4_sumCorner 29 = .ok (.iconst 1, 1) := by decide +kernel
theorem dX4_sumCorner_30 : decode cX4_sumCorner 30 = .ok (.invokestatic 42, 3) := by decide +kernel
theorem dX4_sumCorner_33 : decode cX4_sumCorner 33 = .ok (.ifCond .ne 6, 3) := by decide +kernel
theorem dX4_sumCorner_36 : decode cX4_sumCorner 36 = .ok (.bipush (-2), 2) := by decide +kernel
theorem dX4_sumCorner_38 : decode cX4_sumCorner 38 = .ok (.ireturn, 1) := by decide +kernel
theorem dX4_sumCorner_39 : decode cX4_sumCorner 39 = .ok (.aload_n 0, 1) := by decide +kernel
theorem dX4_sumCorner_40 : decode cX4_sumCorner 40 = .ok (.getfield 21, 3) := by decide +kernel
theorem dX4_sumCorner_43 : decode cX4_sumCorner 43 = .ok (.aload 5, 2) := by decide +kernel
theorem dX4_sumCorner_45 : decode cX4_sumCorner 45 = .ok (.aload 5, 2) := by decide +kernel
theorem dX4_sumCorner_47 : decode cX4_sumCorner 47 = .ok (.invokevirtual 76, 3) := by decide +kernel
theorem dX4_sumCorner_50 : decode cX4_sumCorner 50 = .ok (.aload 6, 2) := by decide +kernel
theorem dX4_sumCorner_52 : decode cX4_sumCorner 52 = .ok (.aload 6, 2) := by decide +kernel
theorem dX4_sumCorner_54 : decode cX4_sumCorner 54 = .ok (.invokevirtual 76, 3) := by decide +kernel
theorem dX4_sumCorner_57 : decode cX4_sumCorner 57 = .ok (.invokevirtual 113, 3) := by decide +kernel
theorem dX4_sumCorner_60 : decode cX4_sumCorner 60 = .ok (.pop, 1) := by decide +kernel
theorem dX4_sumCorner_61 : decode cX4_sumCorner 61 = .ok (.aload_n 0, 1) := by decide +kernel
theorem dX4_sumCorner_62 : decode cX4_sumCorner 62 = .ok (.getfield 21, 3) := by decide +kernel
theorem dX4_sumCorner_65 : decode cX4_sumCorner 65 = .ok (.iload_n 3, 1) := by decide +kernel
theorem dX4_sumCorner_66 : decode cX4_sumCorner 66 = .ok (.invokevirtual 99, 3) := by decide +kernel
theorem dX4_sumCorner_69 : decode cX4_sumCorner 69 = .ok (.ifCond .ne 6, 3) := by decide +kernel
theorem dX4_sumCorner_72 : decode cX4_sumCorner 72 = .ok (.bipush (-6), 2) := by decide +kernel
theorem dX4_sumCorner_74 : decode cX4_sumCorner 74 = .ok (.ireturn, 1) := by decide +kernel
theorem dX4_sumCorner_75 : decode cX4_sumCorner 75 = .ok (.iload 4, 2) := by decide +kernel
theorem dX4_sumCorner_77 : decode cX4_sumCorner 77 = .ok (.ifCond .ne 14, 3) := by decide +kernel
theorem dX4_sumCorner_80 : decode cX4_sumCorner 80 = .ok (.aload_n 0, 1) := by decide +kernel
theorem dX4_sumCorner_81 : decode cX4_sumCorner 81 = .ok (.getfield 21, 3) := by decide +kernel
theorem dX4_sumCorner_84 : decode cX4_sumCorner 84 = .ok (.iload_n 3, 1) := by decide +kernel
theorem dX4_sumCorner_85 : decode cX4_sumCorner 85 = .ok (.invokevirtual 102, 3) := by decide +kernel
theorem dX4_sumCorner_88 : decode cX4_sumCorner 88 = .ok (.goto 11, 3) := by decide +kernel
theorem dX4_sumCorner_91 : decode cX4_sumCorner 91 = .ok (.aload_n 0, 1) := by decide +kernel
theorem dX4_sumCorner_92 : decode cX4_sumCorner 92 = .ok (.getfield 21, 3) := by decide +kernel
theorem dX4_sumCorner_95 : decode cX4_sumCorner 95 = .ok (.iload_n 3, 1) := by decide +kernel
theorem dX4_sumCorner_96 : decode cX4_sumCorner 96 = .ok (.invokevirtual 106, 3) := by decide +kernel
theorem dX4_sumCorner_99 : decode cX4_sumCorner 99 = .ok (.ireturn, 1) := by decide +kernel
theorem dX4_cells_0 : decode cX4_cells 0 = .ok (.aload_n 0, 1) := by decide +kernel
theorem dX4_cells_1 : decode cX4_cells 1 = .ok (.iload_n 1, 1) := by decide +kernel
theorem dX4_cells_2 : decode cX4_cells 2 = .ok (.invokevirtual 38, 3) := by decide +kernel
theorem dX4_cells_5 : decode cX4_cells 5 = .ok (.astore 4, 2) := by decide +kernel
theorem dX4_cells_7 : decode cX4_cells 7 = .ok (.aload_n 0, 1) := by decide +kernel
theorem dX4_cells_8 : decode cX4_cells 8 = .ok (.iload_n 2, 1) := by decide +kernel
theorem dX4_cells_9 : decode cX4_cells 9 = .ok (.invokevirtual 38, 3) := by decide +kernel
theorem dX4_cells_12 : decode cX4_cells 12 = .ok (.astore 5, 2) := by decide +kernel
theorem dX4_cells_14 : decode cX4_cells 14 = .ok (.aload 4, 2) := by decide +kernel
theorem dX4_cells_16 : decode cX4_cells 16 = .ok (.ifnull 8, 3) := by decide +kernel
theorem dX4_cells_19 : decode cX4_cells 19 = .ok (.aload 5, 2) := by decide +kernel
theorem dX4_cells_21 : decode cX4_cells 21 = .ok (.ifnonnull 5, 3) := by decide +kernel
theorem dX4_cells_24 : decode cX4_cells 24 = .ok (.iconst (-1), 1) := by decide +kernel
theorem dX4_cells_25 : decode cX4_cells 25 = .ok (.ireturn, 1) := by decide +kernel
theorem dX4_cells_26 : decode cX4_cells 26 = .ok (.iload_n 3, 1) := by decide +kernel
theorem dX4_cells_27 : decode cX4_cells 27 = .ok (.iconst 0, 1) := by decide +kernel
theorem dX4_cells_28 : decode cX4_cells 28 = .ok (.iconst 2, 1) := by decide +kernel
theorem dX4_cells_29 : decode cX4_cells 29 = .ok (.invokestatic 42, 3) := by decide +kernel
theorem dX4_cells_32 : decode cX4_cells 32 = .ok (.ifCond .ne 13, 3) := by decide +kernel
theorem dX4_cells_35 : decode cX4_cells 35 = .ok (.iload_n 3, 1) := by decide +kernel
theorem dX4_cells_36 : decode cX4_cells 36 = .ok (.invokestatic 118, 3) := by decide +kernel
theorem dX4_cells_39 : decode cX4_cells 39 = .ok (.ifCond .ne 6, 3) := by decide +kernel
theorem dX4_cells_42 : decode cX4_cells 42 = .ok (.bipush (-2), 2) := by decide +kernel
theorem dX4_cells_44 : decode cX4_cells 44 = .ok (.ireturn, 1) := by decide +kernel
theorem dX4_cells_45 : decode cX4_cells 45 = .ok (.aload_n 0, 1) := by decide +kernel
theorem dX4_cells_46 : decode cX4_cells 46 = .ok (.getfield 28, 3) := by decide +kernel
theorem dX4_cells_49 : decode cX4_cells 49 = .ok (.aload 4, 2) := by decide +kernel
theorem dX4_cells_51 : decode cX4_cells 51 = .ok (.aload 5, 2) := by decide +kernel
theorem dX4_cells_53 : decode cX4_cells 53 = .ok (.invokevirtual 121, 3) := by decide +kernel
theorem dX4_cells_56 : decode cX4_cells 56 = .ok (.iload_n 3, 1) := by decide +kernel
theorem dX4_cells_57 : decode cX4_cells 57 = .ok (.ifCond .ne 11, 3) := by decide +kernel
theorem dX4_cells_60 : decode cX4_cells 60 = .ok (.aload_n 0, 1) := by decide +kernel
theorem dX4_cells_61 : decode cX4_cells 61 = .ok (.getfield 28, 3) := by decide +kernel
theorem dX4_cells_64 : decode cX4_cells 64 = .ok (.getfield 125, 3) := by decide +kernel
theorem dX4_cells_67 : decode cX4_cells 67 = .ok (.ireturn, 1) := by decide +kernel
theorem dX4_cells_68 : decode cX4_cells 68 = .ok (.iconst 0, 1) := by decide +kernel
theorem dX4_cells_69 : decode cX4_cells 69 = .ok (.istore 6, 2) := by decide +kernel
theorem dX4_cells_71 : decode cX4_cells 71 = .ok (.iconst 0, 1) := by decide +kernel
theorem dX4_cells_72 : decode cX4_cells 72 = .ok (.istore 7, 2) := by decide +kernel
theorem dX4_cells_74 : decode cX4_cells 74 = .ok (.iload 7, 2) := by decide +kernel
theorem dX4_cells_76 : decode cX4_cells 76 = .ok (.aload_n 0, 1) := by decide +kernel
theorem dX4_cells_77 : decode cX4_cells 77 = .ok (.getfield 28, 3) := by decide +kernel
theorem dX4_cells_80 : decode cX4_cells 80 = .ok (.getfield 125, 3) := by decide +kernel
theorem dX4_cells_83 : decode cX4_cells 83 = .ok (.if_icmp .ge 32, 3) := by decide +kernel
theorem dX4_cells_86 : decode cX4_cells 86 = .ok (.iload 6, 2) := by decide +kernel
theorem dX4_cells_88 : decode cX4_cells 88 = .ok (.aload_n 0, 1) := by decide +kernel
theorem dX4_cells_89 : decode cX4_cells 89 = .ok (.aload_n 0, 1) := by decide +kernel
theorem dX4_cells_90 : decode cX4_cells 90 = .ok (.getfield 28, 3) := by decide +kernel
theorem dX4_cells_93 : decode cX4_cells 93 = .ok (.iload 7, 2) := by decide +kernel
theorem dX4_cells_95 : decode cX4_cells 95 = .ok (.invokevirtual 126, 3) := by decide +kernel
theorem dX4_cells_98 : decode cX4_cells 98 = .ok (.aload 4, 2) := by decide +kernel
theorem dX4_cells_100 : decode cX4_cells 100 = .ok (.aload 5, 2) := by decide +kernel
theorem dX4_cells_102 : decode cX4_cells 102 = .ok (.iload_n 3, 1) := by decide +kernel
theorem dX4_cells_103 : decode cX4_cells 103 = .ok (.invokevirtual 130, 3) := by decide +kernel
theorem dX4_cells_106 : decode cX4_cells 106 = .ok (.iadd, 1) := by decide +kernel
theorem dX4_cells_107 : decode cX4_cells 107 = .ok (.istore 6, 2) := by decide +kernel
theorem dX4_cells_109 : decode cX4_cells 109 = .ok (.iinc 7 1, 3) := by decide +kernel
theorem dX4_cells_112 : decode cX4_cells 112 = .ok (.goto (-38), 3) := by decide +kernel
theorem dX4_cells_115 : decode cX4_cells 115 = .ok (.iload 6, 2) := by decide +kernel
theorem dX4_cells_117 : decode cX4_cells 117 = .ok (.ireturn, 1) := by decide +kernel
theorem dX4_cell_0 : decode cX4_cell 0 = .ok (.aload_n 0, 1) := by decide +kernel
theorem dX4_cell_1 : decode cX4_cell 1 = .ok (.iload_n 1, 1) := by decide +kernel
theorem dX4_cell_2 : decode cX4_cell 2 = .ok (.invokevirtual 38, 3) := by decide +kernel
theorem dX4_cell_5 : decode cX4_cell 5 = .ok (.astore 5, 2) := by decide +kernel
theorem dX4_cell_7 : decode cX4_cell 7 = .ok (.aload_n 0, 1) := by decide +kernel
theorem dX4_cell_8 : decode cX4_cell 8 = .ok (.iload_n 2, 1) := by decide +kernel
theorem dX4_cell_9 : decode cX4_cell 9 = .ok (.invokevirtual 38, 3) := by decide +kernel
theorem dX4_cell_12 : decode cX4_cell 12 = .ok (.astore 6, 2) := by decide +kernel
theorem dX4_cell_14 : decode cX4_cell 14 = .ok (.aload 5, 2) := by decide +kernel
theorem dX4_cell_16 : decode cX4_cell 16 = .ok (.ifnull 8, 3) := by decide +kernel
theorem dX4_cell_19 : decode cX4_cell 19 = .ok (.aload 6, 2) := by decide +kernel
theorem dX4_cell_21 : decode cX4_cell 21 = .ok (.ifnonnull 5, 3) := by decide +kernel
theorem dX4_cell_24 : decode cX4_cell 24 = .ok (.iconst (-1), 1) := by decide +kernel

theorem dX4_cell_25 : decode cX4_cell 25 = .ok (.ireturn, 1) := by decide +kernel
theorem dX4_cell_26 : decode cX4_cell 26 = .ok (.iload 4, 2) := by decide +kernel
theorem dX4_cell_28 : decode cX4_cell 28 = .ok (.iconst 0, 1) := by decide +kernel
theorem dX4_cell_29 : decode cX4_cell 29 = .ok (.iconst 4, 1) := by decide +kernel
theorem dX4_cell_30 : decode cX4_cell 30 = .ok (.invokestatic 42, 3) := by decide +kernel
theorem dX4_cell_33 : decode cX4_cell 33 = .ok (.ifCond .ne 6, 3) := by decide +kernel
theorem dX4_cell_36 : decode cX4_cell 36 = .ok (.bipush (-2), 2) := by decide +kernel
theorem dX4_cell_38 : decode cX4_cell 38 = .ok (.ireturn, 1) := by decide +kernel
theorem dX4_cell_39 : decode cX4_cell 39 = .ok (.aload_n 0, 1) := by decide +kernel
theorem dX4_cell_40 : decode cX4_cell 40 = .ok (.getfield 28, 3) := by decide +kernel
theorem dX4_cell_43 : decode cX4_cell 43 = .ok (.aload 5, 2) := by decide +kernel
theorem dX4_cell_45 : decode cX4_cell 45 = .ok (.aload 6, 2) := by decide +kernel
theorem dX4_cell_47 : decode cX4_cell 47 = .ok (.invokevirtual 121, 3) := by decide +kernel
theorem dX4_cell_50 : decode cX4_cell 50 = .ok (.aload_n 0, 1) := by decide +kernel
theorem dX4_cell_51 : decode cX4_cell 51 = .ok (.getfield 28, 3) := by decide +kernel
theorem dX4_cell_54 : decode cX4_cell 54 = .ok (.iload_n 3, 1) := by decide +kernel
theorem dX4_cell_55 : decode cX4_cell 55 = .ok (.invokevirtual 126, 3) := by decide +kernel
theorem dX4_cell_58 : decode cX4_cell 58 = .ok (.astore 7, 2) := by decide +kernel
theorem dX4_cell_60 : decode cX4_cell 60 = .ok (.aload 7, 2) := by decide +kernel
theorem dX4_cell_62 : decode cX4_cell 62 = .ok (.ifnonnull 6, 3) := by decide +kernel
theorem dX4_cell_65 : decode cX4_cell 65 = .ok (.bipush (-6), 2) := by decide +kernel
theorem dX4_cell_67 : decode cX4_cell 67 = .ok (.ireturn, 1) := by decide +kernel
theorem dX4_cell_68 : decode cX4_cell 68 = .ok (.iload 4, 2) := by decide +kernel
theorem dX4_cell_70 : decode cX4_cell 70 = .ok (.tableswitch 91 0 3 #[30, 41, 66, 85], 30) := by decide +kernel
theorem dX4_cell_100 : decode cX4_cell 100 = .ok (.aload_n 0, 1) := by decide +kernel
theorem dX4_cell_101 : decode cX4_cell 101 = .ok (.aload 7, 2) := by decide +kernel
theorem dX4_cell_103 : decode cX4_cell 103 = .ok (.aload 5, 2) := by decide +kernel
theorem dX4_cell_105 : decode cX4_cell 105 = .ok (.aload 6, 2) := by decide +kernel
theorem dX4_cell_107 : decode cX4_cell 107 = .ok (.invokevirtual 134, 3) := by decide +kernel
theorem dX4_cell_110 : decode cX4_cell 110 = .ok (.ireturn, 1) := by decide +kernel
theorem dX4_cell_111 : decode cX4_cell 111 = .ok (.aload_n 0, 1) := by decide +kernel
theorem dX4_cell_112 : decode cX4_cell 112 = .ok (.getfield 21, 3) := by decide +kernel
theorem dX4_cell_115 : decode cX4_cell 115 = .ok (.aload 5, 2) := by decide +kernel
theorem dX4_cell_117 : decode cX4_cell 117 = .ok (.aload 7, 2) := by decide +kernel
theorem dX4_cell_119 : decode cX4_cell 119 = .ok (.getfield 138, 3) := by decide +kernel
theorem dX4_cell_122 : decode cX4_cell 122 = .ok (.aload 6, 2) := by decide +kernel
theorem dX4_cell_124 : decode cX4_cell 124 = .ok (.aload 7, 2) := by decide +kernel
theorem dX4_cell_126 : decode cX4_cell 126 = .ok (.getfield 143, 3) := by decide +kernel
theorem dX4_cell_129 : decode cX4_cell 129 = .ok (.invokevirtual 113, 3) := by decide +kernel
theorem dX4_cell_132 : decode cX4_cell 132 = .ok (.invokevirtual 84, 3) := by decide +kernel
theorem dX4_cell_135 : decode cX4_cell 135 = .ok (.ireturn, 1) := by decide +kernel
theorem dX4_cell_136 : decode cX4_cell 136 = .ok (.aload_n 0, 1) := by decide +kernel
theorem dX4_cell_137 : decode cX4_cell 137 = .ok (.aload 5, 2) := by decide +kernel
theorem dX4_cell_139 : decode cX4_cell 139 = .ok (.aload 7, 2) := by decide +kernel
theorem dX4_cell_141 : decode cX4_cell 141 = .ok (.getfield 138, 3) := by decide +kernel
theorem dX4_cell_144 : decode cX4_cell 144 = .ok (.aload 6, 2) := by decide +kernel
theorem dX4_cell_146 : decode cX4_cell 146 = .ok (.aload 7, 2) := by decide +kernel
theorem dX4_cell_148 : decode cX4_cell 148 = .ok (.getfield 143, 3) := by decide +kernel
theorem dX4_cell_151 : decode cX4_cell 151 = .ok (.invokevirtual 109, 3) := by decide +kernel
theorem dX4_cell_154 : decode cX4_cell 154 = .ok (.ireturn, 1) := by decide +kernel
theorem dX4_cell_155 : decode cX4_cell 155 = .ok (.aload 7, 2) := by decide +kernel
theorem dX4_cell_157 : decode cX4_cell 157 = .ok (.getfield 138, 3) := by decide +kernel
theorem dX4_cell_160 : decode cX4_cell 160 = .ok (.ireturn, 1) := by decide +kernel
theorem dX4_cell_161 : decode cX4_cell 161 = .ok (.aload 7, 2) := by decide +kernel
theorem dX4_cell_163 : decode cX4_cell 163 = .ok (.getfield 143, 3) := by decide +kernel
theorem dX4_cell_166 : decode cX4_cell 166 = .ok (.ireturn, 1) := by decide +kernel
theorem dX4_slope_0 : decode cX4_slope 0 = .ok (.aload_n 0, 1) := by decide +kernel
theorem dX4_slope_1 : decode cX4_slope 1 = .ok (.iload_n 1, 1) := by decide +kernel
theorem dX4_slope_2 : decode cX4_slope 2 = .ok (.invokevirtual 38, 3) := by decide +kernel
theorem dX4_slope_5 : decode cX4_slope 5 = .ok (.astore 5, 2) := by decide +kernel
theorem dX4_slope_7 : decode cX4_slope 7 = .ok (.aload_n 0, 1) := by decide +kernel
theorem dX4_slope_8 : decode cX4_slope 8 = .ok (.iload_n 2, 1) := by decide +kernel
theorem dX4_slope_9 : decode cX4_slope 9 = .ok (.invokevirtual 38, 3) := by decide +kernel
theorem dX4_slope_12 : decode cX4_slope 12 = .ok (.astore 6, 2) := by decide +kernel
theorem dX4_slope_14 : decode cX4_slope 14 = .ok (.aload 5, 2) := by decide +kernel
theorem dX4_slope_16 : decode cX4_slope 16 = .ok (.ifnull 8, 3) := by decide +kernel
theorem dX4_slope_19 : decode cX4_slope 19 = .ok (.aload 6, 2) := by decide +kernel
theorem dX4_slope_21 : decode cX4_slope 21 = .ok (.ifnonnull 5, 3) := by decide +kernel
theorem dX4_slope_24 : decode cX4_slope 24 = .ok (.iconst (-1), 1) := by decide +kernel
theorem dX4_slope_25 : decode cX4_slope 25 = .ok (.ireturn, 1) := by decide +kernel
theorem dX4_slope_26 : decode cX4_slope 26 = .ok (.iload 4, 2) := by decide +kernel
theorem dX4_slope_28 : decode cX4_slope 28 = .ok (.iconst 0, 1) := by decide +kernel
theorem dX4_slope_29 : decode cX4_slope 29 = .ok (.iconst 3, 1) := by decide +kernel
theorem dX4_slope_30 : decode cX4_slope 30 = .ok (.invokestatic 42, 3) := by decide +kernel
theorem dX4_slope_33 : decode cX4_slope 33 = .ok (.ifCond .ne 6, 3) := by decide +kernel
theorem dX4_slope_36 : decode cX4_slope 36 = .ok (.bipush (-2), 2) := by decide +kernel
theorem dX4_slope_38 : decode cX4_slope 38 = .ok (.ireturn, 1) := by decide +kernel
theorem dX4_slope_39 : decode cX4_slope 39 = .ok (.aload_n 0, 1) := by decide +kernel
theorem dX4_slope_40 : decode cX4_slope 40 = .ok (.getfield 28, 3) := by decide +kernel
theorem dX4_slope_43 : decode cX4_slope 43 = .ok (.aload 5, 2) := by decide +kernel
theorem dX4_slope_45 : decode cX4_slope 45 = .ok (.aload 6, 2) := by decide +kernel
theorem dX4_slope_47 : decode cX4_slope 47 = .ok (.invokevirtual 121, 3) := by decide +kernel
theorem dX4_slope_50 : decode cX4_slope 50 = .ok (.aload_n 0, 1) := by decide +kernel
theorem dX4_slope_51 : decode cX4_slope 51 = .ok (.getfield 28, 3) := by decide +kernel
theorem dX4_slope_54 : decode cX4_slope 54 = .ok (.iload_n 3, 1) := by decide +kernel
theorem dX4_slope_55 : decode cX4_slope 55 = .ok (.invokevirtual 126, 3) := by decide +kernel
theorem dX4_slope_58 : decode cX4_slope 58 = .ok (.astore 7, 2) := by decide +kernel
theorem dX4_slope_60 : decode cX4_slope 60 = .ok (.aload 7, 2) := by decide +kernel
theorem dX4_slope_62 : decode cX4_slope 62 = .ok (.ifnonnull 6, 3) := by decide +kernel
theorem dX4_slope_65 : decode cX4_slope 65 = .ok (.bipush (-6), 2) := by decide +kernel
theorem dX4_slope_67 : decode cX4_slope 67 = .ok (.ireturn, 1) := by decide +kernel
theorem dX4_slope_68 : decode cX4_slope 68 = .ok (.iload 4, 2) := by decide +kernel
theorem dX4_slope_70 : decode cX4_slope 70 = .ok (.tableswitch 50 0 2 #[26, 35, 41], 26) := by decide +kernel
theorem dX4_slope_96 : decode cX4_slope 96 = .ok (.ldc 146, 2) := by decide +kernel
theorem dX4_slope_98 : decode cX4_slope 98 = .ok (.aload 7, 2) := by decide +kernel
theorem dX4_slope_100 : decode cX4_slope 100 = .ok (.getfield 147, 3) := by decide +kernel
theorem dX4_slope_103 : decode cX4_slope 103 = .ok (.iadd, 1) := by decide +kernel
theorem dX4_slope_104 : decode cX4_slope 104 = .ok (.ireturn, 1) := by decide +kernel
theorem dX4_slope_105 : decode cX4_slope 105 = .ok (.aload 7, 2) := by decide +kernel
theorem dX4_slope_107 : decode cX4_slope 107 = .ok (.getfield 150, 3) := by decide +kernel
theorem dX4_slope_110 : decode cX4_slope 110 = .ok (.ireturn, 1) := by decide +kernel
theorem dX4_slope_111 : decode cX4_slope 111 = .ok (.ldc 146, 2) := by decide +kernel
theorem dX4_slope_113 : decode cX4_slope 113 = .ok (.aload 7, 2) := by decide +kernel
theorem dX4_slope_115 : decode cX4_slope 115 = .ok (.getfield 153, 3) := by decide +kernel
theorem dX4_slope_118 : decode cX4_slope 118 = .ok (.iadd, 1) := by decide +kernel
theorem dX4_slope_119 : decode cX4_slope 119 = .ok (.ireturn, 1) := by decide +kernel
theorem dX4_slope_120 : decode cX4_slope 120 = .ok (.aload 7, 2) := by decide +kernel
theorem dX4_slope_122 : decode cX4_slope 122 = .ok (.getfield 156, 3) := by decide +kernel
theorem dX4_slope_125 : decode cX4_slope 125 = .ok (.ireturn, 1) := by decide +kernel
theorem dX4_low_0 : decode cX4_low 0 = .ok (.aload_n 0, 1) := by decide +kernel
theorem dX4_low_1 : decode cX4_low 1 = .ok (.iload_n 1, 1) := by decide +kernel
theorem dX4_low_2 : decode cX4_low 2 = .ok (.invokevirtual 38, 3) := by decide +kernel
theorem dX4_low_5 : decode cX4_low 5 = .ok (.astore 4, 2) := by decide +kernel
theorem dX4_low_7 : decode cX4_low 7 = .ok (.aload 4, 2) := by decide +kernel
theorem dX4_low_9 : decode cX4_low 9 = .ok (.ifnonnull 5, 3) := by decide +kernel
theorem dX4_low_12 : decode cX4_low 12 = .ok (.iconst (-1), 1) := by decide +kernel
theorem dX4_low_13 : decode cX4_low 13 = .ok (.ireturn, 1) := by decide +kernel
theorem dX4_low_14 : decode cX4_low 14 = .ok (.iload_n 2, 1) := by decide +kernel
theorem dX4_low_15 : decode cX4_low 15 = .ok (.sipush (-1000), 3) := by decide +kernel
theorem dX4_low_18 : decode cX4_low 18 = .ok (.sipush 1000, 3) := by decide +kernel
theorem dX4_low_21 : decode cX4_low 21 = .ok (.invokestatic 42, 3) := by decide +kernel
theorem dX4_low_24 : decode cX4_low 24 = .ok (.ifCond .eq 16, 3) := by decide +kernel
theorem dX4_low_27 : decode cX4_low 27 = .ok (.iload_n 3, 1) := by decide +kernel
theorem dX4_low_28 : decode cX4_low 28 = .ok (.sipush (-1000), 3) := by decide +kernel
theorem dX4_low_31 : decode cX4_low 31 = .ok (.sipush 1000, 3) := by decide +kernel
theorem dX4_low_34 : decode cX4_low 34 = .ok (.invokestatic 42, 3) := by decide +kernel
theorem dX4_low_37 : decode cX4_low 37 = .ok (.ifCond .ne 6, 3) := by decide +kernel
theorem dX4_low_40 : decode cX4_low 40 = .ok (.bipush (-2), 2) := by decide +kernel
theorem dX4_low_42 : decode cX4_low 42 = .ok (.ireturn, 1) := by decide +kernel
theorem dX4_low_43 : decode cX4_low 43 = .ok (.aload 4, 2) := by decide +kernel
theorem dX4_low_45 : decode cX4_low 45 = .ok (.iload_n 2, 1) := by decide +kernel
theorem dX4_low_46 : decode cX4_low 46 = .ok (.iload_n 3, 1) := by decide +kernel
theorem dX4_low_47 : decode cX4_low 47 = .ok (.iconst 1, 1) := by decide +kernel
theorem dX4_low_48 : decode cX4_low 48 = .ok (.invokevirtual 159, 3) := by decide +kernel
theorem dX4_low_51 : decode cX4_low 51 = .ok (.ireturn, 1) := by decide +kernel
theorem dX4_fan_0 : decode cX4_fan 0 = .ok (.aload_n 0, 1) := by decide +kernel
theorem dX4_fan_1 : decode cX4_fan 1 = .ok (.iload_n 1, 1) := by decide +kernel
theorem dX4_fan_2 : decode cX4_fan 2 = .ok (.invokevirtual 38, 3) := by decide +kernel
theorem dX4_fan_5 : decode cX4_fan 5 = .ok (.astore_n 3, 1) := by decide +kernel
theorem dX4_fan_6 : decode cX4_fan 6 = .ok (.aload_n 3, 1) := by decide +kernel
theorem dX4_fan_7 : decode cX4_fan 7 = .ok (.ifnonnull 5, 3) := by decide +kernel
theorem dX4_fan_10 : decode cX4_fan 10 = .ok (.iconst (-1), 1) := by decide +kernel
theorem dX4_fan_11 : decode cX4_fan 11 = .ok (.ireturn, 1) := by decide +kernel
theorem dX4_fan_12 : decode cX4_fan 12 = .ok (.iload_n 2, 1) := by decide +kernel
theorem dX4_fan_13 : decode cX4_fan 13 = .ok (.iconst 0, 1) := by decide +kernel
theorem dX4_fan_14 : decode cX4_fan 14 = .ok (.iconst 2, 1) := by decide +kernel
theorem dX4_fan_15 : decode cX4_fan 15 = .ok (.invokestatic 42, 3) := by decide +kernel
theorem dX4_fan_18 : decode cX4_fan 18 = .ok (.ifCond .ne 6, 3) := by decide +kernel
theorem dX4_fan_21 : decode cX4_fan 21 = .ok (.bipush (-2), 2) := by decide +kernel
theorem dX4_fan_23 : decode cX4_fan 23 = .ok (.ireturn, 1) := by decide +kernel
theorem dX4_fan_24 : decode cX4_fan 24 = .ok (.aload_n 0, 1) := by decide +kernel
theorem dX4_fan_25 : decode cX4_fan 25 = .ok (.getfield 21, 3) := by decide +kernel
theorem dX4_fan_28 : decode cX4_fan 28 = .ok (.aload_n 3, 1) := by decide +kernel
theorem dX4_fan_29 : decode cX4_fan 29 = .ok (.invokevirtual 162, 3) := by decide +kernel
theorem dX4_fan_32 : decode cX4_fan 32 = .ok (.pop, 1) := by decide +kernel
theorem dX4_fan_33 : decode cX4_fan 33 = .ok (.iload_n 2, 1) := by decide +kernel
theorem dX4_fan_34 : decode cX4_fan 34 = .ok (.lookupswitch 42 #[(0, 26), (1, 34)], 26) := by decide +kernel
theorem dX4_fan_60 : decode cX4_fan 60 = .ok (.aload_n 0, 1) := by decide +kernel
theorem dX4_fan_61 : decode cX4_fan 61 = .ok (.getfield 21, 3) := by decide +kernel
theorem dX4_fan_64 : decode cX4_fan 64 = .ok (.invokevirtual 84, 3) := by decide +kernel
theorem dX4_fan_67 : decode cX4_fan 67 = .ok (.ireturn, 1) := by decide +kernel
theorem dX4_fan_68 : decode cX4_fan 68 = .ok (.aload_n 0, 1) := by decide +kernel
theorem dX4_fan_69 : decode cX4_fan 69 = .ok (.getfield 21, 3) := by decide +kernel
theorem dX4_fan_72 : decode cX4_fan 72 = .ok (.getfield 87, 3) := by decide +kernel
theorem dX4_fan_75 : decode cX4_fan 75 = .ok (.ireturn, 1) := by decide +kernel
theorem dX4_fan_76 : decode cX4_fan 76 = .ok (.aload_n 0, 1) := by decide +kernel
theorem dX4_fan_77 : decode cX4_fan 77 = .ok (.getfield 21, 3) := by decide +kernel
theorem dX4_fan_80 : decode cX4_fan 80 = .ok (.getfield 117, 3) := by decide +kernel
theorem dX4_fan_83 : decode cX4_fan 83 = .ok (.ireturn, 1) := by decide +kernel
theorem dX4_roots_0 : decode cX4_roots 0 = .ok (.aload_n 0, 1) := by decide +kernel
theorem dX4_roots_1 : decode cX4_roots 1 = .ok (.iload_n 1, 1) := by decide +kernel
theorem dX4_roots_2 : decode cX4_roots 2 = .ok (.invokevirtual 38, 3) := by decide +kernel
theorem dX4_roots_5 : decode cX4_roots 5 = .ok (.astore 4, 2) := by decide +kernel
theorem dX4_roots_7 : decode cX4_roots 7 = .ok (.aload_n 0, 1) := by decide +kernel
theorem dX4_roots_8 : decode cX4_roots 8 = .ok (.iload_n 2, 1) := by decide +kernel
theorem dX4_roots_9 : decode cX4_roots 9 = .ok (.invokevirtual 38, 3) := by decide +kernel
theorem dX4_roots_12 : decode cX4_roots 12 = .ok (.astore 5, 2) := by decide +kernel
theorem dX4_roots_14 : decode cX4_roots 14 = .ok (.aload 4, 2) := by decide +kernel
theorem dX4_roots_16 : decode cX4_roots 16 = .ok (.ifnull 8, 3) := by decide +kernel
theorem dX4_roots_19 : decode cX4_roots 19 = .ok (.aload 5, 2) := by decide +kernel
theorem dX4_roots_21 : decode cX4_roots 21 = .ok (.ifnonnull 5, 3) := by decide +kernel
theorem dX4_roots_24 : decode cX4_roots 24 = .ok (.iconst (-1), 1) := by decide +kernel
theorem dX4_roots_25 : decode cX4_roots 25 = .ok (.ireturn, 1) := by decide +kernel
theorem dX4_roots_26 : decode cX4_roots 26 = .ok (.iload_n 3, 1) := by decide +kernel
theorem dX4_roots_27 : decode cX4_roots 27 = .ok (.invokestatic 166, 3) := by decide +kernel
theorem dX4_roots_30 : decode cX4_roots 30 = .ok (.ifCond .ne 6, 3) := by decide +kernel
theorem dX4_roots_33 : decode cX4_roots 33 = .ok (.bipush (-2), 2) := by decide +kernel
theorem dX4_roots_35 : decode cX4_roots 35 = .ok (.ireturn, 1) := by decide +kernel
theorem dX4_roots_36 : decode cX4_roots 36 = .ok (.aload_n 0, 1) := by decide +kernel
theorem dX4_roots_37 : decode cX4_roots 37 = .ok (.iload_n 3, 1) := by decide +kernel
theorem dX4_roots_38 : decode cX4_roots 38 = .ok (.invokevirtual 169, 3) := by decide +kernel
theorem dX4_roots_41 : decode cX4_roots 41 = .ok (.iconst 0, 1) := by decide +kernel
theorem dX4_roots_42 : decode cX4_roots 42 = .ok (.istore 6, 2) := by decide +kernel
theorem dX4_roots_44 : decode cX4_roots 44 = .ok (.iconst 1, 1) := by decide +kernel
theorem dX4_roots_45 : decode cX4_roots 45 = .ok (.istore 7, 2) := by decide +kernel
theorem dX4_roots_47 : decode cX4_roots 47 = .ok (.iload 7, 2) := by decide +kernel
theorem dX4_roots_49 : decode cX4_roots 49 = .ok (.iload_n 3, 1) := by decide +kernel
theorem dX4_roots_50 : decode cX4_roots 50 = .ok (.if_icmp .ge 55, 3) := by decide +kernel
theorem dX4_roots_53 : decode cX4_roots 53 = .ok (.iconst 1, 1) := by decide +kernel
theorem dX4_roots_54 : decode cX4_roots 54 = .ok (.istore 8, 2) := by decide +kernel
theorem dX4_roots_56 : decode cX4_roots 56 = .ok (.iload 8, 2) := by decide +kernel
theorem dX4_roots_58 : decode cX4_roots 58 = .ok (.iload_n 3, 1) := by decide +kernel
theorem dX4_roots_59 : decode cX4_roots 59 = .ok (.if_icmp .ge 40, 3) := by decide +kernel
theorem dX4_roots_62 : decode cX4_roots 62 = .ok (.aload_n 0, 1) := by decide +kernel
theorem dX4_roots_63 : decode cX4_roots 63 = .ok (.aload 4, 2) := by decide +kernel
theorem dX4_roots_65 : decode cX4_roots 65 = .ok (.iload 7, 2) := by decide +kernel
theorem dX4_roots_67 : decode cX4_roots 67 = .ok (.iload 8, 2) := by decide +kernel
theorem dX4_roots_69 : decode cX4_roots 69 = .ok (.iload_n 3, 1) := by decide +kernel
theorem dX4_roots_70 : decode cX4_roots 70 = .ok (.invokevirtual 172, 3) := by decide +kernel
theorem dX4_roots_73 : decode cX4_roots 73 = .ok (.ifCond .eq 20, 3) := by decide +kernel
theorem dX4_roots_76 : decode cX4_roots 76 = .ok (.aload_n 0, 1) := by decide +kernel
theorem dX4_roots_77 : decode cX4_roots 77 = .ok (.aload 5, 2) := by decide +kernel
theorem dX4_roots_79 : decode cX4_roots 79 = .ok (.iload 7, 2) := by decide +kernel
theorem dX4_roots_81 : decode cX4_roots 81 = .ok (.iload 8, 2) := by decide +kernel
theorem dX4_roots_83 : decode cX4_roots 83 = .ok (.iload_n 3, 1) := by decide +kernel
theorem dX4_roots_84 : decode cX4_roots 84 = .ok (.invokevirtual 172, 3) := by decide +kernel
theorem dX4_roots_87 : decode cX4_roots 87 = .ok (.ifCond .eq 6, 3) := by decide +kernel
theorem dX4_roots_90 : decode cX4_roots 90 = .ok (.iinc 6 1, 3) := by decide +kernel
theorem dX4_roots_93 : decode cX4_roots 93 = .ok (.iinc 8 1, 3) := by decide +kernel
theorem dX4_roots_96 : decode cX4_roots 96 = .ok (.goto (-40), 3) := by decide +kernel
theorem dX4_roots_99 : decode cX4_roots 99 = .ok (.iinc 7 1, 3) := by decide +kernel
theorem dX4_roots_102 : decode cX4_roots 102 = .ok (.goto (-55), 3) := by decide +kernel
theorem dX4_roots_105 : decode cX4_roots 105 = .ok (.iload 6, 2) := by decide +kernel
theorem dX4_roots_107 : decode cX4_roots 107 = .ok (.ireturn, 1) := by decide +kernel
theorem dX4_image_0 : decode cX4_image 0 = .ok (.iload_n 1, 1) := by decide +kernel
theorem dX4_image_1 : decode cX4_image 1 = .ok (.iconst 0, 1) := by decide +kernel
theorem dX4_image_2 : decode cX4_image 2 = .ok (.iconst 1, 1) := by decide +kernel
theorem dX4_image_3 : decode cX4_image 3 = .ok (.invokestatic 42, 3) := by decide +kernel
theorem dX4_image_6 : decode cX4_image 6 = .ok (.ifCond .ne 6, 3) := by decide +kernel
theorem dX4_image_9 : decode cX4_image 9 = .ok (.bipush (-2), 2) := by decide +kernel
theorem dX4_image_11 : decode cX4_image 11 = .ok (.ireturn, 1) := by decide +kernel
theorem dX4_image_12 : decode cX4_image 12 = .ok (.iconst 0, 1) := by decide +kernel
theorem dX4_image_13 : decode cX4_image 13 = .ok (.istore_n 2, 1) := by decide +kernel
theorem dX4_image_14 : decode cX4_image 14 = .ok (.iload_n 2, 1) := by decide +kernel
theorem dX4_image_15 : decode cX4_image 15 = .ok (.iconst 4, 1) := by decide +kernel
theorem dX4_image_16 : decode cX4_image 16 = .ok (.if_icmp .ge 28, 3) := by decide +kernel
theorem dX4_image_19 : decode cX4_image 19 = .ok (.aload_n 0, 1) := by decide +kernel
theorem dX4_image_20 : decode cX4_image 20 = .ok (.getfield 15, 3) := by decide +kernel
theorem dX4_image_23 : decode cX4_image 23 = .ok (.iload_n 1, 1) := by decide +kernel
theorem dX4_image_24 : decode cX4_image 24 = .ok (.iconst 4, 1) := by decide +kernel
theorem dX4_image_25 : decode cX4_image 25 = .ok (.imul, 1) := by decide +kernel
theorem dX4_image_26 : decode cX4_image 26 = .ok (.iload_n 2, 1) := by decide +kernel
theorem dX4_image_27 : decode cX4_image 27 = .ok (.iadd, 1) := by decide +kernel
theorem dX4_image_28 : decode cX4_image 28 = .ok (.aaload, 1) := by decide +kernel
theorem dX4_image_29 : decode cX4_image 29 = .ok (.aload_n 0, 1) := by decide +kernel
theorem dX4_image_30 : decode cX4_image 30 = .ok (.getfield 11, 3) := by decide +kernel
theorem dX4_image_33 : decode cX4_image 33 = .ok (.iload_n 2, 1) := by decide +kernel
theorem dX4_image_34 : decode cX4_image 34 = .ok (.aaload, 1) := by decide +kernel
theorem dX4_image_35 : decode cX4_image 35 = .ok (.invokevirtual 176, 3) := by decide +kernel
theorem dX4_image_38 : decode cX4_image 38 = .ok (.iinc 2 1, 3) := by decide +kernel
theorem dX4_image_41 : decode cX4_image 41 = .ok (.goto (-27), 3) := by decide +kernel
theorem dX4_image_44 : decode cX4_image 44 = .ok (.aload_n 0, 1) := by decide +kernel
theorem dX4_image_45 : decode cX4_image 45 = .ok (.dup, 1) := by decide +kernel
theorem dX4_image_46 : decode cX4_image 46 = .ok (.getfield 180, 3) := by decide +kernel
theorem dX4_image_49 : decode cX4_image 49 = .ok (.iconst 1, 1) := by decide +kernel
theorem dX4_image_50 : decode cX4_image 50 = .ok (.iload_n 1, 1) := by decide +kernel
theorem dX4_image_51 : decode cX4_image 51 = .ok (.ishl, 1) := by decide +kernel
theorem dX4_image_52 : decode cX4_image 52 = .ok (.ior, 1) := by decide +kernel
theorem dX4_image_53 : decode cX4_image 53 = .ok (.putfield 180, 3) := by decide +kernel
theorem dX4_image_56 : decode cX4_image 56 = .ok (.iconst 1, 1) := by decide +kernel
theorem dX4_image_57 : decode cX4_image 57 = .ok (.ireturn, 1) := by decide +kernel
theorem dX4_restore_0 : decode cX4_restore 0 = .ok (.iload_n 1, 1) := by decide +kernel
theorem dX4_restore_1 : decode cX4_restore 1 = .ok (.iconst 0, 1) := by decide +kernel
theorem dX4_restore_2 : decode cX4_restore 2 = .ok (.iconst 1, 1) := by decide +kernel
theorem dX4_restore_3 : decode cX4_restore 3 = .ok (.invokestatic 42, 3) := by decide +kernel
theorem dX4_restore_6 : decode cX4_restore 6 = .ok (.ifCond .ne 6, 3) := by decide +kernel
theorem dX4_restore_9 : decode cX4_restore 9 = .ok (.bipush (-2), 2) := by decide +kernel
theorem dX4_restore_11 : decode cX4_restore 11 = .ok (.ireturn, 1) := by decide +kernel
theorem dX4_restore_12 : decode cX4_restore 12 = .ok (.aload_n 0, 1) := by decide +kernel
theorem dX4_restore_13 : decode cX4_restore 13 = .ok (.getfield 180, 3) := by decide +kernel
theorem dX4_restore_16 : decode cX4_restore 16 = .ok (.iload_n 1, 1) := by decide +kernel
theorem dX4_restore_17 : decode cX4_restore 17 = .ok (.ishr, 1) := by decide +kernel
theorem dX4_restore_18 : decode cX4_restore 18 = .ok (.iconst 1, 1) := by decide +kernel
theorem dX4_restore_19 : decode cX4_restore 19 = .ok (.iand, 1) := by decide +kernel
theorem dX4_restore_20 : decode cX4_restore 20 = .ok (.ifCond .ne 6, 3) := by decide +kernel
theorem dX4_restore_23 : decode cX4_restore 23 = .ok (.bipush (-3), 2) := by decide +kernel
theorem dX4_restore_25 : decode cX4_restore 25 = .ok (.ireturn, 1) := by decide +kernel
theorem dX4_restore_26 : decode cX4_restore 26 = .ok (.iconst 0, 1) := by decide +kernel
theorem dX4_restore_27 : decode cX4_restore 27 = .ok (.istore_n 2, 1) := by decide +kernel
theorem dX4_restore_28 : decode cX4_restore 28 = .ok (.iload_n 2, 1) := by decide +kernel
theorem dX4_restore_29 : decode cX4_restore 29 = .ok (.iconst 4, 1) := by decide +kernel
theorem dX4_restore_30 : decode cX4_restore 30 = .ok (.if_icmp .ge 28, 3) := by decide +kernel
theorem dX4_restore_33 : decode cX4_restore 33 = .ok (.aload_n 0, 1) := by decide +kernel
theorem dX4_restore_34 : decode cX4_restore 34 = .ok (.getfield 11, 3) := by decide +kernel
theorem dX4_restore_37 : decode cX4_restore 37 = .ok (.iload_n 2, 1) := by decide +kernel
theorem dX4_restore_38 : decode cX4_restore 38 = .ok (.aaload, 1) := by decide +kernel
theorem dX4_restore_39 : decode cX4_restore 39 = .ok (.aload_n 0, 1) := by decide +kernel
theorem dX4_restore_40 : decode cX4_restore 40 = .ok (.getfield 15, 3) := by decide +kernel
theorem dX4_restore_43 : decode cX4_restore 43 = .ok (.iload_n 1, 1) := by decide +kernel
theorem dX4_restore_44 : decode cX4_restore 44 = .ok (.iconst 4, 1) := by decide +kernel
theorem dX4_restore_45 : decode cX4_restore 45 = .ok (.imul, 1) := by decide +kernel
theorem dX4_restore_46 : decode cX4_restore 46 = .ok (.iload_n 2, 1) := by decide +kernel
theorem dX4_restore_47 : decode cX4_restore 47 = .ok (.iadd, 1) := by decide +kernel
theorem dX4_restore_48 : decode cX4_restore 48 = .ok (.aaload, 1) := by decide +kernel
theorem dX4_restore_49 : decode cX4_restore 49 = .ok (.invokevirtual 176, 3) := by decide +kernel
theorem dX4_restore_52 : decode cX4_restore 52 = .ok (.iinc 2 1, 3) := by decide +kernel
theorem dX4_restore_55 : decode cX4_restore 55 = .ok (.goto (-27), 3) := by decide +kernel
theorem dX4_restore_58 : decode cX4_restore 58 = .ok (.iconst 1, 1) := by decide +kernel
theorem dX4_restore_59 : decode cX4_restore 59 = .ok (.ireturn, 1) := by decide +kernel
theorem dX4_count_0 : decode cX4_count 0 = .ok (.iload_n 1, 1) := by decide +kernel
theorem dX4_count_1 : decode cX4_count 1 = .ok (.iconst 0, 1) := by decide +kernel
theorem dX4_count_2 : decode cX4_count 2 = .ok (.bipush 6, 2) := by decide +kernel
theorem dX4_count_4 : decode cX4_count 4 = .ok (.invokestatic 42, 3) := by decide +kernel
theorem dX4_count_7 : decode cX4_count 7 = .ok (.ifCond .ne 6, 3) := by decide +kernel
theorem dX4_count_10 : decode cX4_count 10 = .ok (.bipush (-2), 2) := by decide +kernel
theorem dX4_count_12 : decode cX4_count 12 = .ok (.ireturn, 1) := by decide +kernel
theorem dX4_count_13 : decode cX4_count 13 = .ok (.iload_n 1, 1) := by decide +kernel
theorem dX4_count_14 : decode cX4_count 14 = .ok (.iconst 4, 1) := by decide +kernel
theorem dX4_count_15 : decode cX4_count 15 = .ok (.if_icmp .ge 13, 3) := by decide +kernel
theorem dX4_count_18 : decode cX4_count 18 = .ok (.aload_n 0, 1) := by decide +kernel
theorem dX4_count_19 : decode cX4_count 19 = .ok (.getfield 11, 3) := by decide +kernel
theorem dX4_count_22 : decode cX4_count 22 = .ok (.iload_n 1, 1) := by decide +kernel
theorem dX4_count_23 : decode cX4_count 23 = .ok (.aaload, 1) := by decide +kernel
theorem dX4_count_24 : decode cX4_count 24 = .ok (.getfield 50, 3) := by decide +kernel
theorem dX4_count_27 : decode cX4_count 27 = .ok (.ireturn, 1) := by decide +kernel
theorem dX4_count_28 : decode cX4_count 28 = .ok (.iload_n 1, 1) := by decide +kernel
theorem dX4_count_29 : decode cX4_count 29 = .ok (.lookupswitch 37 #[(4, 27), (5, 32)], 27) := by decide +kernel
theorem dX4_count_56 : decode cX4_count 56 = .ok (.aload_n 0, 1) := by decide +kernel
theorem dX4_count_57 : decode cX4_count 57 = .ok (.invokevirtual 183, 3) := by decide +kernel
theorem dX4_count_60 : decode cX4_count 60 = .ok (.ireturn, 1) := by decide +kernel
theorem dX4_count_61 : decode cX4_count 61 = .ok (.aload_n 0, 1) := by decide +kernel
theorem dX4_count_62 : decode cX4_count 62 = .ok (.invokevirtual 186, 3) := by decide +kernel
theorem dX4_count_65 : decode cX4_count 65 = .ok (.ireturn, 1) := by decide +kernel
theorem dX4_count_66 : decode cX4_count 66 = .ok (.aload_n 0, 1) := by decide +kernel
theorem dX4_count_67 : decode cX4_count 67 = .ok (.getfield 180, 3) := by decide +kernel
theorem dX4_count_70 : decode cX4_count 70 = .ok (.ireturn, 1) := by decide +kernel
theorem dX4_bodyAt_0 : decode cX4_bodyAt 0 = .ok (.iload_n 1, 1) := by decide +kernel
theorem dX4_bodyAt_1 : decode cX4_bodyAt 1 = .ok (.iconst 0, 1) := by decide +kernel
theorem dX4_bodyAt_2 : decode cX4_bodyAt 2 = .ok (.iconst 3, 1) := by decide +kernel
theorem dX4_bodyAt_3 : decode cX4_bodyAt 3 = .ok (.invokestatic 42, 3) := by decide +kernel
theorem dX4_bodyAt_6 : decode cX4_bodyAt 6 = .ok (.ifCond .eq 12, 3) := by decide +kernel
theorem dX4_bodyAt_9 : decode cX4_bodyAt 9 = .ok (.aload_n 0, 1) := by decide +kernel
theorem dX4_bodyAt_10 : decode cX4_bodyAt 10 = .ok (.getfield 11, 3) := by decide +kernel
theorem dX4_bodyAt_13 : decode cX4_bodyAt 13 = .ok (.iload_n 1, 1) := by decide +kernel
theorem dX4_bodyAt_14 : decode cX4_bodyAt 14 = .ok (.aaload, 1) := by decide +kernel
theorem dX4_bodyAt_15 : decode cX4_bodyAt 15 = .ok (.goto 4, 3) := by decide +kernel
theorem dX4_bodyAt_18 : decode cX4_bodyAt 18 = .ok (.aconst_null, 1) := by decide +kernel
theorem dX4_bodyAt_19 : decode cX4_bodyAt 19 = .ok (.areturn, 1) := by decide +kernel
theorem dX4_isWithin_0 : decode cX4_isWithin 0 = .ok (.iload_n 0, 1) := by decide +kernel
theorem dX4_isWithin_1 : decode cX4_isWithin 1 = .ok (.iload_n 1, 1) := by decide +kernel
theorem dX4_isWithin_2 : decode cX4_isWithin 2 = .ok (.if_icmp .lt 12, 3) := by decide +kernel
theorem dX4_isWithin_5 : decode cX4_isWithin 5 = .ok (.iload_n 0, 1) := by decide +kernel
theorem dX4_isWithin_6 : decode cX4_isWithin 6 = .ok (.iload_n 2, 1) := by decide +kernel
theorem dX4_isWithin_7 : decode cX4_isWithin 7 = .ok (.if_icmp .gt 7, 3) := by decide +kernel
theorem dX4_isWithin_10 : decode cX4_isWithin 10 = .ok (.iconst 1, 1) := by decide +kernel
theorem dX4_isWithin_11 : decode cX4_isWithin 11 = .ok (.goto 4, 3) := by decide +kernel
theorem dX4_isWithin_14 : decode cX4_isWithin 14 = .ok (.iconst 0, 1) := by decide +kernel
theorem dX4_isWithin_15 : decode cX4_isWithin 15 = .ok (.ireturn, 1) := by decide +kernel
theorem dX4_isKindAsked_0 : decode cX4_isKindAsked 0 = .ok (.iload_n 0, 1) := by decide +kernel
theorem dX4_isKindAsked_1 : decode cX4_isKindAsked 1 = .ok (.lookupswitch 61 #[(102, 59), (111, 59), (112, 59), (120, 59), (121, 59), (122, 59)], 59) := by decide +kernel
theorem dX4_isKindAsked_60 : decode cX4_isKindAsked 60 = .ok (.iconst 1, 1) := by decide +kernel
theorem dX4_isKindAsked_61 : decode cX4_isKindAsked 61 = .ok (.ireturn, 1) := by decide +kernel
theorem dX4_isKindAsked_62 : decode cX4_isKindAsked 62 = .ok (.iconst 0, 1) := by decide +kernel
theorem dX4_isKindAsked_63 : decode cX4_isKindAsked 63 = .ok (.ireturn, 1) := by decide +kernel
theorem dX4_isSmallPrime_0 : decode cX4_isSmallPrime 0 = .ok (.iload_n 0, 1) := by decide +kernel
theorem dX4_isSmallPrime_1 : decode cX4_isSmallPrime 1 = .ok (.tableswitch 65 2 13 #[63, 63, 65, 63, 65, 63, 65, 65, 65, 63, 65, 63], 63) := by decide +kernel
theorem dX4_isSmallPrime_64 : decode cX4_isSmallPrime 64 = .ok (.iconst 1, 1) := by decide +kernel
theorem dX4_isSmallPrime_65 : decode cX4_isSmallPrime 65 = .ok (.ireturn, 1) := by decide +kernel
theorem dX4_isSmallPrime_66 : decode cX4_isSmallPrime 66 = .ok (.iconst 0, 1) := by decide +kernel
theorem dX4_isSmallPrime_67 : decode cX4_isSmallPrime 67 = .ok (.ireturn, 1) := by decide +kernel
theorem dX4_pointsOfAll_0 : decode cX4_pointsOfAll 0 = .ok (.iconst 0, 1) := by decide +kernel
theorem dX4_pointsOfAll_1 : decode cX4_pointsOfAll 1 = .ok (.istore_n 1, 1) := by decide +kernel
theorem dX4_pointsOfAll_2 : decode cX4_pointsOfAll 2 = .ok (.iconst 0, 1) := by decide +kernel
theorem dX4_pointsOfAll_3 : decode cX4_pointsOfAll 3 = .ok (.istore_n 2, 1) := by decide +kernel
theorem dX4_pointsOfAll_4 : decode cX4_pointsOfAll 4 = .ok (.iload_n 2, 1) := by decide +kernel
theorem dX4_pointsOfAll_5 : decode cX4_pointsOfAll 5 = .ok (.iconst 4, 1) := by decide +kernel
theorem dX4_pointsOfAll_6 : decode cX4_pointsOfAll 6 = .ok (.if_icmp .ge 21, 3) := by decide +kernel
theorem dX4_pointsOfAll_9 : decode cX4_pointsOfAll 9 = .ok (.iload_n 1, 1) := by decide +kernel
theorem dX4_pointsOfAll_10 : decode cX4_pointsOfAll 10 = .ok (.aload_n 0, 1) := by decide +kernel
theorem dX4_pointsOfAll_11 : decode cX4_pointsOfAll 11 = .ok (.getfield 11, 3) := by decide +kernel
theorem dX4_pointsOfAll_14 : decode cX4_pointsOfAll 14 = .ok (.iload_n 2, 1) := by decide +kernel
theorem dX4_pointsOfAll_15 : decode cX4_pointsOfAll 15 = .ok (.aaload, 1) := by decide +kernel
theorem dX4_pointsOfAll_16 : decode cX4_pointsOfAll 16 = .ok (.getfield 50, 3) := by decide +kernel
theorem dX4_pointsOfAll_19 : decode cX4_pointsOfAll 19 = .ok (.iadd, 1) := by decide +kernel
theorem dX4_pointsOfAll_20 : decode cX4_pointsOfAll 20 = .ok (.istore_n 1, 1) := by decide +kernel
theorem dX4_pointsOfAll_21 : decode cX4_pointsOfAll 21 = .ok (.iinc 2 1, 3) := by decide +kernel
theorem dX4_pointsOfAll_24 : decode cX4_pointsOfAll 24 = .ok (.goto (-20), 3) := by decide +kernel
theorem dX4_pointsOfAll_27 : decode cX4_pointsOfAll 27 = .ok (.iload_n 1, 1) := by decide +kernel
theorem dX4_pointsOfAll_28 : decode cX4_pointsOfAll 28 = .ok (.ireturn, 1) := by decide +kernel
theorem dX4_filledBodies_0 : decode cX4_filledBodies 0 = .ok (.iconst 0, 1) := by decide +kernel
theorem dX4_filledBodies_1 : decode cX4_filledBodies 1 = .ok (.istore_n 1, 1) := by decide +kernel
theorem dX4_filledBodies_2 : decode cX4_filledBodies 2 = .ok (.iconst 0, 1) := by decide +kernel
theorem dX4_filledBodies_3 : decode cX4_filledBodies 3 = .ok (.istore_n 2, 1) := by decide +kernel
theorem dX4_filledBodies_4 : decode cX4_filledBodies 4 = .ok (.iload_n 2, 1) := by decide +kernel
theorem dX4_filledBodies_5 : decode cX4_filledBodies 5 = .ok (.iconst 4, 1) := by decide +kernel
theorem dX4_filledBodies_6 : decode cX4_filledBodies 6 = .ok (.if_icmp .ge 27, 3) := by decide +kernel
theorem dX4_filledBodies_9 : decode cX4_filledBodies 9 = .ok (.aload_n 0, 1) := by decide +kernel
theorem dX4_filledBodies_10 : decode cX4_filledBodies 10 = .ok (.getfield 11, 3) := by decide +kernel
theorem dX4_filledBodies_13 : decode cX4_filledBodies 13 = .ok (.iload_n 2, 1) := by decide +kernel
theorem dX4_filledBodies_14 : decode cX4_filledBodies 14 = .ok (.aaload, 1) := by decide +kernel
theorem dX4_filledBodies_15 : decode cX4_filledBodies 15 = .ok (.getfield 50, 3) := by decide +kernel
theorem dX4_filledBodies_18 : decode cX4_filledBodies 18 = .ok (.ifCond .le 9, 3) := by decide +kernel
theorem dX4_filledBodies_21 : decode cX4_filledBodies 21 = .ok (.iload_n 1, 1) := by decide +kernel
theorem dX4_filledBodies_22 : decode cX4_filledBodies 22 = .ok (.iconst 1, 1) := by decide +kernel
theorem dX4_filledBodies_23 : decode cX4_filledBodies 23 = .ok (.iload_n 2, 1) := by decide +kernel
theorem dX4_filledBodies_24 : decode cX4_filledBodies 24 = .ok (.ishl, 1) := by decide +kernel
theorem dX4_filledBodies_25 : decode cX4_filledBodies 25 = .ok (.ior, 1) := by decide +kernel
theorem dX4_filledBodies_26 : decode cX4_filledBodies 26 = .ok (.istore_n 1, 1) := by decide +kernel
theorem dX4_filledBodies_27 : decode cX4_filledBodies 27 = .ok (.iinc 2 1, 3) := by decide +kernel
theorem dX4_filledBodies_30 : decode cX4_filledBodies 30 = .ok (.goto (-26), 3) := by decide +kernel
theorem dX4_filledBodies_33 : decode cX4_filledBodies 33 = .ok (.iload_n 1, 1) := by decide +kernel
theorem dX4_filledBodies_34 : decode cX4_filledBodies 34 = .ok (.ireturn, 1) := by decide +kernel
theorem dX4_mixedOf_0 : decode cX4_mixedOf 0 = .ok (.iload_n 2, 1) := by decide +kernel
theorem dX4_mixedOf_1 : decode cX4_mixedOf 1 = .ok (.ifCond .eq 8, 3) := by decide +kernel
theorem dX4_mixedOf_4 : decode cX4_mixedOf 4 = .ok (.iload 4, 2) := by decide +kernel
theorem dX4_mixedOf_6 : decode cX4_mixedOf 6 = .ok (.ifCond .ne 5, 3) := by decide +kernel
theorem dX4_mixedOf_9 : decode cX4_mixedOf 9 = .ok (.iconst 0, 1) := by decide +kernel
theorem dX4_mixedOf_10 : decode cX4_mixedOf 10 = .ok (.ireturn, 1) := by decide +kernel
theorem dX4_mixedOf_11 : decode cX4_mixedOf 11 = .ok (.aload_n 0, 1) := by decide +kernel
theorem dX4_mixedOf_12 : decode cX4_mixedOf 12 = .ok (.getfield 21, 3) := by decide +kernel
theorem dX4_mixedOf_15 : decode cX4_mixedOf 15 = .ok (.aload_n 1, 1) := by decide +kernel
theorem dX4_mixedOf_16 : decode cX4_mixedOf 16 = .ok (.iload_n 2, 1) := by decide +kernel
theorem dX4_mixedOf_17 : decode cX4_mixedOf 17 = .ok (.aload_n 3, 1) := by decide +kernel
theorem dX4_mixedOf_18 : decode cX4_mixedOf 18 = .ok (.iload 4, 2) := by decide +kernel
theorem dX4_mixedOf_20 : decode cX4_mixedOf 20 = .ok (.invokevirtual 113, 3) := by decide +kernel
theorem dX4_mixedOf_23 : decode cX4_mixedOf 23 = .ok (.invokevirtual 84, 3) := by decide +kernel
theorem dX4_mixedOf_26 : decode cX4_mixedOf 26 = .ok (.istore 5, 2) := by decide +kernel
theorem dX4_mixedOf_28 : decode cX4_mixedOf 28 = .ok (.iload 5, 2) := by decide +kernel
theorem dX4_mixedOf_30 : decode cX4_mixedOf 30 = .ok (.aload_n 0, 1) := by decide +kernel
theorem dX4_mixedOf_31 : decode cX4_mixedOf 31 = .ok (.getfield 21, 3) := by decide +kernel
theorem dX4_mixedOf_34 : decode cX4_mixedOf 34 = .ok (.aload_n 1, 1) := by decide +kernel
theorem dX4_mixedOf_35 : decode cX4_mixedOf 35 = .ok (.iload_n 2, 1) := by decide +kernel
theorem dX4_mixedOf_36 : decode cX4_mixedOf 36 = .ok (.invokevirtual 80, 3) := by decide +kernel
theorem dX4_mixedOf_39 : decode cX4_mixedOf 39 = .ok (.invokevirtual 84, 3) := by decide +kernel
theorem dX4_mixedOf_42 : decode cX4_mixedOf 42 = .ok (.isub, 1) := by decide +kernel
theorem dX4_mixedOf_43 : decode cX4_mixedOf 43 = .ok (.aload_n 0, 1) := by decide +kernel
theorem dX4_mixedOf_44 : decode cX4_mixedOf 44 = .ok (.getfield 21, 3) := by decide +kernel
theorem dX4_mixedOf_47 : decode cX4_mixedOf 47 = .ok (.aload_n 3, 1) := by decide +kernel
theorem dX4_mixedOf_48 : decode cX4_mixedOf 48 = .ok (.iload 4, 2) := by decide +kernel
theorem dX4_mixedOf_50 : decode cX4_mixedOf 50 = .ok (.invokevirtual 80, 3) := by decide +kernel
theorem dX4_mixedOf_53 : decode cX4_mixedOf 53 = .ok (.invokevirtual 84, 3) := by decide +kernel
theorem dX4_mixedOf_56 : decode cX4_mixedOf 56 = .ok (.isub, 1) := by decide +kernel
theorem dX4_mixedOf_57 : decode cX4_mixedOf 57 = .ok (.ireturn, 1) := by decide +kernel
theorem dX4_kindOf_0 : decode cX4_kindOf 0 = .ok (.bipush 10, 2) := by decide +kernel
theorem dX4_kindOf_2 : decode cX4_kindOf 2 = .ok (.aload_n 0, 1) := by decide +kernel
theorem dX4_kindOf_3 : decode cX4_kindOf 3 = .ok (.getfield 21, 3) := by decide +kernel
theorem dX4_kindOf_6 : decode cX4_kindOf 6 = .ok (.aload_n 2, 1) := by decide +kernel
theorem dX4_kindOf_7 : decode cX4_kindOf 7 = .ok (.aload_n 1, 1) := by decide +kernel
theorem dX4_kindOf_8 : decode cX4_kindOf 8 = .ok (.getfield 138, 3) := by decide +kernel
theorem dX4_kindOf_11 : decode cX4_kindOf 11 = .ok (.invokevirtual 80, 3) := by decide +kernel
theorem dX4_kindOf_14 : decode cX4_kindOf 14 = .ok (.invokevirtual 96, 3) := by decide +kernel
theorem dX4_kindOf_17 : decode cX4_kindOf 17 = .ok (.imul, 1) := by decide +kernel
theorem dX4_kindOf_18 : decode cX4_kindOf 18 = .ok (.aload_n 0, 1) := by decide +kernel
theorem dX4_kindOf_19 : decode cX4_kindOf 19 = .ok (.getfield 21, 3) := by decide +kernel
theorem dX4_kindOf_22 : decode cX4_kindOf 22 = .ok (.aload_n 3, 1) := by decide +kernel
theorem dX4_kindOf_23 : decode cX4_kindOf 23 = .ok (.aload_n 1, 1) := by decide +kernel
theorem dX4_kindOf_24 : decode cX4_kindOf 24 = .ok (.getfield 143, 3) := by decide +kernel
theorem dX4_kindOf_27 : decode cX4_kindOf 27 = .ok (.invokevirtual 80, 3) := by decide +kernel
theorem dX4_kindOf_30 : decode cX4_kindOf 30 = .ok (.invokevirtual 96, 3) := by decide +kernel
theorem dX4_kindOf_33 : decode cX4_kindOf 33 = .ok (.iadd, 1) := by decide +kernel
theorem dX4_kindOf_34 : decode cX4_kindOf 34 = .ok (.ireturn, 1) := by decide +kernel
theorem dX4_shareOf_0 : decode cX4_shareOf 0 = .ok (.aload_n 1, 1) := by decide +kernel
theorem dX4_shareOf_1 : decode cX4_shareOf 1 = .ok (.ifnonnull 5, 3) := by decide +kernel
theorem dX4_shareOf_4 : decode cX4_shareOf 4 = .ok (.iconst 0, 1) := by decide +kernel
theorem dX4_shareOf_5 : decode cX4_shareOf 5 = .ok (.ireturn, 1) := by decide +kernel
theorem dX4_shareOf_6 : decode cX4_shareOf 6 = .ok (.iload 4, 2) := by decide +kernel
theorem dX4_shareOf_8 : decode cX4_shareOf 8 = .ok (.lookupswitch 64 #[(1, 28), (2, 49)], 28) := by decide +kernel
theorem dX4_shareOf_36 : decode cX4_shareOf 36 = .ok (.aload_n 0, 1) := by decide +kernel
theorem dX4_shareOf_37 : decode cX4_shareOf 37 = .ok (.getfield 21, 3) := by decide +kernel
theorem dX4_shareOf_40 : decode cX4_shareOf 40 = .ok (.aload_n 2, 1) := by decide +kernel
theorem dX4_shareOf_41 : decode cX4_shareOf 41 = .ok (.aload_n 1, 1) := by decide +kernel
theorem dX4_shareOf_42 : decode cX4_shareOf 42 = .ok (.getfield 138, 3) := by decide +kernel
theorem dX4_shareOf_45 : decode cX4_shareOf 45 = .ok (.aload_n 3, 1) := by decide +kernel
theorem dX4_shareOf_46 : decode cX4_shareOf 46 = .ok (.aload_n 1, 1) := by decide +kernel
theorem dX4_shareOf_47 : decode cX4_shareOf 47 = .ok (.getfield 143, 3) := by decide +kernel
theorem dX4_shareOf_50 : decode cX4_shareOf 50 = .ok (.invokevirtual 113, 3) := by decide +kernel
theorem dX4_shareOf_53 : decode cX4_shareOf 53 = .ok (.invokevirtual 84, 3) := by decide +kernel
theorem dX4_shareOf_56 : decode cX4_shareOf 56 = .ok (.ireturn, 1) := by decide +kernel
theorem dX4_shareOf_57 : decode cX4_shareOf 57 = .ok (.aload_n 0, 1) := by decide +kernel
theorem dX4_shareOf_58 : decode cX4_shareOf 58 = .ok (.aload_n 2, 1) := by decide +kernel
theorem dX4_shareOf_59 : decode cX4_shareOf 59 = .ok (.aload_n 1, 1) := by decide +kernel
theorem dX4_shareOf_60 : decode cX4_shareOf 60 = .ok (.getfield 138, 3) := by decide +kernel
theorem dX4_shareOf_63 : decode cX4_shareOf 63 = .ok (.aload_n 3, 1) := by decide +kernel
theorem dX4_shareOf_64 : decode cX4_shareOf 64 = .ok (.aload_n 1, 1) := by decide +kernel
theorem dX4_shareOf_65 : decode cX4_shareOf 65 = .ok (.getfield 143, 3) := by decide +kernel
theorem dX4_shareOf_68 : decode cX4_shareOf 68 = .ok (.invokevirtual 109, 3) := by decide +kernel
theorem dX4_shareOf_71 : decode cX4_shareOf 71 = .ok (.ireturn, 1) := by decide +kernel
theorem dX4_shareOf_72 : decode cX4_shareOf 72 = .ok (.aload_n 0, 1) := by decide +kernel
theorem dX4_shareOf_73 : decode cX4_shareOf 73 = .ok (.aload_n 1, 1) := by decide +kernel
theorem dX4_shareOf_74 : decode cX4_shareOf 74 = .ok (.aload_n 2, 1) := by decide +kernel
theorem dX4_shareOf_75 : decode cX4_shareOf 75 = .ok (.aload_n 3, 1) := by decide +kernel
theorem dX4_shareOf_76 : decode cX4_shareOf 76 = .ok (.invokevirtual 134, 3) := by decide +kernel
theorem dX4_shareOf_79 : decode cX4_shareOf 79 = .ok (.iload 4, 2) := by decide +kernel
theorem dX4_shareOf_81 : decode cX4_shareOf 81 = .ok (.bipush 100, 2) := by decide +kernel
theorem dX4_shareOf_83 : decode cX4_shareOf 83 = .ok (.isub, 1) := by decide +kernel
theorem dX4_shareOf_84 : decode cX4_shareOf 84 = .ok (.if_icmp .ne 7, 3) := by decide +kernel
theorem dX4_shareOf_87 : decode cX4_shareOf 87 = .ok (.iconst 1, 1) := by decide +kernel
theorem dX4_shareOf_88 : decode cX4_shareOf 88 = .ok (.goto 4, 3) := by decide +kernel
theorem dX4_shareOf_91 : decode cX4_shareOf 91 = .ok (.iconst 0, 1) := by decide +kernel
theorem dX4_shareOf_92 : decode cX4_shareOf 92 = .ok (.ireturn, 1) := by decide +kernel
theorem dX4_fillPowers_0 : decode cX4_fillPowers 0 = .ok (.iload_n 1, 1) := by decide +kernel
theorem dX4_fillPowers_1 : decode cX4_fillPowers 1 = .ok (.iconst 1, 1) := by decide +kernel
theorem dX4_fillPowers_2 : decode cX4_fillPowers 2 = .ok (.bipush 13, 2) := by decide +kernel
theorem dX4_fillPowers_4 : decode cX4_fillPowers 4 = .ok (.invokestatic 42, 3) := by decide +kernel
theorem dX4_fillPowers_7 : decode cX4_fillPowers 7 = .ok (.ifCond .ne 4, 3) := by decide +kernel
theorem dX4_fillPowers_10 : decode cX4_fillPowers 10 = .ok (.return_, 1) := by decide +kernel
theorem dX4_fillPowers_11 : decode cX4_fillPowers 11 = .ok (.iconst 1, 1) := by decide +kernel
theorem dX4_fillPowers_12 : decode cX4_fillPowers 12 = .ok (.istore_n 2, 1) := by decide +kernel
theorem dX4_fillPowers_13 : decode cX4_fillPowers 13 = .ok (.iload_n 2, 1) := by decide +kernel
theorem dX4_fillPowers_14 : decode cX4_fillPowers 14 = .ok (.iload_n 1, 1) := by decide +kernel
theorem dX4_fillPowers_15 : decode cX4_fillPowers 15 = .ok (.if_icmp .ge 54, 3) := by decide +kernel
theorem dX4_fillPowers_18 : decode cX4_fillPowers 18 = .ok (.aload_n 0, 1) := by decide +kernel
theorem dX4_fillPowers_19 : decode cX4_fillPowers 19 = .ok (.getfield 34, 3) := by decide +kernel
theorem dX4_fillPowers_22 : decode cX4_fillPowers 22 = .ok (.iload_n 2, 1) := by decide +kernel
theorem dX4_fillPowers_23 : decode cX4_fillPowers 23 = .ok (.aaload, 1) := by decide +kernel
theorem dX4_fillPowers_24 : decode cX4_fillPowers 24 = .ok (.iconst 0, 1) := by decide +kernel
theorem dX4_fillPowers_25 : decode cX4_fillPowers 25 = .ok (.iconst 1, 1) := by decide +kernel
theorem dX4_fillPowers_26 : decode cX4_fillPowers 26 = .ok (.iastore, 1) := by decide +kernel
theorem dX4_fillPowers_27 : decode cX4_fillPowers 27 = .ok (.iconst 1, 1) := by decide +kernel
theorem dX4_fillPowers_28 : decode cX4_fillPowers 28 = .ok (.istore_n 3, 1) := by decide +kernel
theorem dX4_fillPowers_29 : decode cX4_fillPowers 29 = .ok (.iload_n 3, 1) := by decide +kernel
theorem dX4_fillPowers_30 : decode cX4_fillPowers 30 = .ok (.bipush 12, 2) := by decide +kernel
theorem dX4_fillPowers_32 : decode cX4_fillPowers 32 = .ok (.if_icmp .gt 31, 3) := by decide +kernel
theorem dX4_fillPowers_35 : decode cX4_fillPowers 35 = .ok (.aload_n 0, 1) := by decide +kernel
theorem dX4_fillPowers_36 : decode cX4_fillPowers 36 = .ok (.getfield 34, 3) := by decide +kernel
theorem dX4_fillPowers_39 : decode cX4_fillPowers 39 = .ok (.iload_n 2, 1) := by decide +kernel
theorem dX4_fillPowers_40 : decode cX4_fillPowers 40 = .ok (.aaload, 1) := by decide +kernel
theorem dX4_fillPowers_41 : decode cX4_fillPowers 41 = .ok (.iload_n 3, 1) := by decide +kernel
theorem dX4_fillPowers_42 : decode cX4_fillPowers 42 = .ok (.aload_n 0, 1) := by decide +kernel
theorem dX4_fillPowers_43 : decode cX4_fillPowers 43 = .ok (.getfield 34, 3) := by decide +kernel
theorem dX4_fillPowers_46 : decode cX4_fillPowers 46 = .ok (.iload_n 2, 1) := by decide +kernel
theorem dX4_fillPowers_47 : decode cX4_fillPowers 47 = .ok (.aaload, 1) := by decide +kernel
theorem dX4_fillPowers_48 : decode cX4_fillPowers 48 = .ok (.iload_n 3, 1) := by decide +kernel
theorem dX4_fillPowers_49 : decode cX4_fillPowers 49 = .ok (.iconst 1, 1) := by decide +kernel
theorem dX4_fillPowers_50 : decode cX4_fillPowers 50 = .ok (.isub, 1) := by decide +kernel
theorem dX4_fillPowers_51 : decode cX4_fillPowers 51 = .ok (.iaload, 1) := by decide +kernel
theorem dX4_fillPowers_52 : decode cX4_fillPowers 52 = .ok (.iload_n 2, 1) := by decide +kernel
theorem dX4_fillPowers_53 : decode cX4_fillPowers 53 = .ok (.imul, 1) := by decide +kernel
theorem dX4_fillPowers_54 : decode cX4_fillPowers 54 = .ok (.iload_n 1, 1) := by decide +kernel
theorem dX4_fillPowers_55 : decode cX4_fillPowers 55 = .ok (.irem, 1) := by decide +kernel
theorem dX4_fillPowers_56 : decode cX4_fillPowers 56 = .ok (.iastore, 1) := by decide +kernel
theorem dX4_fillPowers_57 : decode cX4_fillPowers 57 = .ok (.iinc 3 1, 3) := by decide +kernel
theorem dX4_fillPowers_60 : decode cX4_fillPowers 60 = .ok (.goto (-31), 3) := by decide +kernel
theorem dX4_fillPowers_63 : decode cX4_fillPowers 63 = .ok (.iinc 2 1, 3) := by decide +kernel
theorem dX4_fillPowers_66 : decode cX4_fillPowers 66 = .ok (.goto (-53), 3) := by decide +kernel
theorem dX4_fillPowers_69 : decode cX4_fillPowers 69 = .ok (.return_, 1) := by decide +kernel
theorem dX4_isRoot_0 : decode cX4_isRoot 0 = .ok (.iload 4, 2) := by decide +kernel
theorem dX4_isRoot_2 : decode cX4_isRoot 2 = .ok (.iconst 1, 1) := by decide +kernel
theorem dX4_isRoot_3 : decode cX4_isRoot 3 = .ok (.bipush 13, 2) := by decide +kernel
theorem dX4_isRoot_5 : decode cX4_isRoot 5 = .ok (.invokestatic 42, 3) := by decide +kernel
theorem dX4_isRoot_8 : decode cX4_isRoot 8 = .ok (.ifCond .ne 5, 3) := by decide +kernel
theorem dX4_isRoot_11 : decode cX4_isRoot 11 = .ok (.iconst 0, 1) := by decide +kernel
theorem dX4_isRoot_12 : decode cX4_isRoot 12 = .ok (.ireturn, 1) := by decide +kernel
theorem dX4_isRoot_13 : decode cX4_isRoot 13 = .ok (.iconst 0, 1) := by decide +kernel
theorem dX4_isRoot_14 : decode cX4_isRoot 14 = .ok (.istore 5, 2) := by decide +kernel
theorem dX4_isRoot_16 : decode cX4_isRoot 16 = .ok (.iconst 0, 1) := by decide +kernel
theorem dX4_isRoot_17 : decode cX4_isRoot 17 = .ok (.istore 6, 2) := by decide +kernel
theorem dX4_isRoot_19 : decode cX4_isRoot 19 = .ok (.iload 6, 2) := by decide +kernel
theorem dX4_isRoot_21 : decode cX4_isRoot 21 = .ok (.aload_n 1, 1) := by decide +kernel
theorem dX4_isRoot_22 : decode cX4_isRoot 22 = .ok (.getfield 50, 3) := by decide +kernel
theorem dX4_isRoot_25 : decode cX4_isRoot 25 = .ok (.if_icmp .ge 51, 3) := by decide +kernel
theorem dX4_isRoot_28 : decode cX4_isRoot 28 = .ok (.iload 5, 2) := by decide +kernel
theorem dX4_isRoot_30 : decode cX4_isRoot 30 = .ok (.aload_n 1, 1) := by decide +kernel
theorem dX4_isRoot_31 : decode cX4_isRoot 31 = .ok (.getfield 58, 3) := by decide +kernel
theorem dX4_isRoot_34 : decode cX4_isRoot 34 = .ok (.iload 6, 2) := by decide +kernel
theorem dX4_isRoot_36 : decode cX4_isRoot 36 = .ok (.iaload, 1) := by decide +kernel
theorem dX4_isRoot_37 : decode cX4_isRoot 37 = .ok (.aload_n 0, 1) := by decide +kernel
theorem dX4_isRoot_38 : decode cX4_isRoot 38 = .ok (.getfield 34, 3) := by decide +kernel
theorem dX4_isRoot_41 : decode cX4_isRoot 41 = .ok (.iload_n 2, 1) := by decide +kernel
theorem dX4_isRoot_42 : decode cX4_isRoot 42 = .ok (.aaload, 1) := by decide +kernel
theorem dX4_isRoot_43 : decode cX4_isRoot 43 = .ok (.aload_n 1, 1) := by decide +kernel
theorem dX4_isRoot_44 : decode cX4_isRoot 44 = .ok (.getfield 70, 3) := by decide +kernel
theorem dX4_isRoot_47 : decode cX4_isRoot 47 = .ok (.iload 6, 2) := by decide +kernel
theorem dX4_isRoot_49 : decode cX4_isRoot 49 = .ok (.iaload, 1) := by decide +kernel
theorem dX4_isRoot_50 : decode cX4_isRoot 50 = .ok (.iaload, 1) := by decide +kernel
theorem dX4_isRoot_51 : decode cX4_isRoot 51 = .ok (.imul, 1) := by decide +kernel
theorem dX4_isRoot_52 : decode cX4_isRoot 52 = .ok (.aload_n 0, 1) := by decide +kernel
theorem dX4_isRoot_53 : decode cX4_isRoot 53 = .ok (.getfield 34, 3) := by decide +kernel
theorem dX4_isRoot_56 : decode cX4_isRoot 56 = .ok (.iload_n 3, 1) := by decide +kernel
theorem dX4_isRoot_57 : decode cX4_isRoot 57 = .ok (.aaload, 1) := by decide +kernel
theorem dX4_isRoot_58 : decode cX4_isRoot 58 = .ok (.aload_n 1, 1) := by decide +kernel
theorem dX4_isRoot_59 : decode cX4_isRoot 59 = .ok (.getfield 73, 3) := by decide +kernel
theorem dX4_isRoot_62 : decode cX4_isRoot 62 = .ok (.iload 6, 2) := by decide +kernel
theorem dX4_isRoot_64 : decode cX4_isRoot 64 = .ok (.iaload, 1) := by decide +kernel
theorem dX4_isRoot_65 : decode cX4_isRoot 65 = .ok (.iaload, 1) := by decide +kernel
theorem dX4_isRoot_66 : decode cX4_isRoot 66 = .ok (.imul, 1) := by decide +kernel
theorem dX4_isRoot_67 : decode cX4_isRoot 67 = .ok (.iadd, 1) := by decide +kernel
theorem dX4_isRoot_68 : decode cX4_isRoot 68 = .ok (.istore 5, 2) := by decide +kernel
theorem dX4_isRoot_70 : decode cX4_isRoot 70 = .ok (.iinc 6 1, 3) := by decide +kernel
theorem dX4_isRoot_73 : decode cX4_isRoot 73 = .ok (.goto (-54), 3) := by decide +kernel
theorem dX4_isRoot_76 : decode cX4_isRoot 76 = .ok (.iload 5, 2) := by decide +kernel
theorem dX4_isRoot_78 : decode cX4_isRoot 78 = .ok (.iload 4, 2) := by decide +kernel
theorem dX4_isRoot_80 : decode cX4_isRoot 80 = .ok (.irem, 1) := by decide +kernel
theorem dX4_isRoot_81 : decode cX4_isRoot 81 = .ok (.ifCond .ne 7, 3) := by decide +kernel
theorem dX4_isRoot_84 : decode cX4_isRoot 84 = .ok (.iconst 1, 1) := by decide +kernel
theorem dX4_isRoot_85 : decode cX4_isRoot 85 = .ok (.goto 4, 3) := by decide +kernel
theorem dX4_isRoot_88 : decode cX4_isRoot 88 = .ok (.iconst 0, 1) := by decide +kernel
theorem dX4_isRoot_89 : decode cX4_isRoot 89 = .ok (.ireturn, 1) := by decide +kernel
theorem dX4_commonDivisor_0 : decode cX4_commonDivisor 0 = .ok (.iload_n 0, 1) := by decide +kernel
theorem dX4_commonDivisor_1 : decode cX4_commonDivisor 1 = .ok (.istore_n 2, 1) := by decide +kernel
theorem dX4_commonDivisor_2 : decode cX4_commonDivisor 2 = .ok (.iload_n 1, 1) := by decide +kernel
theorem dX4_commonDivisor_3 : decode cX4_commonDivisor 3 = .ok (.istore_n 3, 1) := by decide +kernel
theorem dX4_commonDivisor_4 : decode cX4_commonDivisor 4 = .ok (.iconst 0, 1) := by decide +kernel
theorem dX4_commonDivisor_5 : decode cX4_commonDivisor 5 = .ok (.istore 4, 2) := by decide +kernel
theorem dX4_commonDivisor_7 : decode cX4_commonDivisor 7 = .ok (.iload 4, 2) := by decide +kernel
theorem dX4_commonDivisor_9 : decode cX4_commonDivisor 9 = .ok (.bipush 64, 2) := by decide +kernel
theorem dX4_commonDivisor_11 : decode cX4_commonDivisor 11 = .ok (.if_icmp .ge 23, 3) := by decide +kernel
theorem dX4_commonDivisor_14 : decode cX4_commonDivisor 14 = .ok (.iload_n 3, 1) := by decide +kernel
theorem dX4_commonDivisor_15 : decode cX4_commonDivisor 15 = .ok (.ifCond .eq 19, 3) := by decide +kernel
theorem dX4_commonDivisor_18 : decode cX4_commonDivisor 18 = .ok (.iload_n 2, 1) := by decide +kernel
theorem dX4_commonDivisor_19 : decode cX4_commonDivisor 19 = .ok (.iload_n 3, 1) := by decide +kernel
theorem dX4_commonDivisor_20 : decode cX4_commonDivisor 20 = .ok (.irem, 1) := by decide +kernel
theorem dX4_commonDivisor_21 : decode cX4_commonDivisor 21 = .ok (.istore 5, 2) := by decide +kernel
theorem dX4_commonDivisor_23 : decode cX4_commonDivisor 23 = .ok (.iload_n 3, 1) := by decide +kernel
theorem dX4_commonDivisor_24 : decode cX4_commonDivisor 24 = .ok (.istore_n 2, 1) := by decide +kernel
theorem dX4_commonDivisor_25 : decode cX4_commonDivisor 25 = .ok (.iload 5, 2) := by decide +kernel
theorem dX4_commonDivisor_27 : decode cX4_commonDivisor 27 = .ok (.istore_n 3, 1) := by decide +kernel
theorem dX4_commonDivisor_28 : decode cX4_commonDivisor 28 = .ok (.iinc 4 1, 3) := by decide +kernel
theorem dX4_commonDivisor_31 : decode cX4_commonDivisor 31 = .ok (.goto (-24), 3) := by decide +kernel
theorem dX4_commonDivisor_34 : decode cX4_commonDivisor 34 = .ok (.iload_n 2, 1) := by decide +kernel
theorem dX4_commonDivisor_35 : decode cX4_commonDivisor 35 = .ok (.ireturn, 1) := by decide +kernel
theorem dX5_init_0 : decode cX5_init 0 = .ok (.aload_n 0, 1) := by decide +kernel
theorem dX5_init_1 : decode cX5_init 1 = .ok (.invokespecial 1, 3) := by decide +kernel
theorem dX5_init_4 : decode cX5_init 4 = .ok (.aload_n 0, 1) := by decide +kernel
theorem dX5_init_5 : decode cX5_init 5 = .ok (.bipush 88, 2) := by decide +kernel
theorem dX5_init_7 : decode cX5_init 7 = .ok (.newarray .int, 2) := by decide +kernel
theorem dX5_init_9 : decode cX5_init 9 = .ok (.putfield 7, 3) := by decide +kernel
theorem dX5_init_12 : decode cX5_init 12 = .ok (.aload_n 0, 1) := by decide +kernel
theorem dX5_init_13 : decode cX5_init 13 = .ok (.sipush 176, 3) := by decide +kernel
theorem dX5_init_16 : decode cX5_init 16 = .ok (.newarray .int, 2) := by decide +kernel
theorem dX5_init_18 : decode cX5_init 18 = .ok (.putfield 13, 3) := by decide +kernel
theorem dX5_init_21 : decode cX5_init 21 = .ok (.aload_n 0, 1) := by decide +kernel
theorem dX5_init_22 : decode cX5_init 22 = .ok (.iconst 2, 1) := by decide +kernel
theorem dX5_init_23 : decode cX5_init 23 = .ok (.newarray .boolean, 2) := by decide +kernel
theorem dX5_init_25 : decode cX5_init 25 = .ok (.putfield 16, 3) := by decide +kernel
theorem dX5_init_28 : decode cX5_init 28 = .ok (.aload_n 0, 1) := by decide +kernel
theorem dX5_init_29 : decode cX5_init 29 = .ok (.sipush 128, 3) := by decide +kernel
theorem dX5_init_32 : decode cX5_init 32 = .ok (.newarray .int, 2) := by decide +kernel
theorem dX5_init_34 : decode cX5_init 34 = .ok (.putfield 20, 3) := by decide +kernel
theorem dX5_init_37 : decode cX5_init 37 = .ok (.aload_n 0, 1) := by decide +kernel
theorem dX5_init_38 : decode cX5_init 38 = .ok (.sipush 128, 3) := by decide +kernel
theorem dX5_init_41 : decode cX5_init 41 = .ok (.newarray .int, 2) := by decide +kernel
theorem dX5_init_43 : decode cX5_init 43 = .ok (.putfield 23, 3) := by decide +kernel
theorem dX5_init_46 : decode cX5_init 46 = .ok (.aload_n 0, 1) := by decide +kernel
theorem dX5_init_47 : decode cX5_init 47 = .ok (.sipush 128, 3) := by decide +kernel
theorem dX5_init_50 : decode cX5_init 50 = .ok (.newarray .int, 2) := by decide +kernel
theorem dX5_init_52 : decode cX5_init 52 = .ok (.putfield 26, 3) := by decide +kernel
theorem dX5_init_55 : decode cX5_init 55 = .ok (.aload_n 0, 1) := by decide +kernel
theorem dX5_init_56 : decode cX5_init 56 = .ok (.sipush 512, 3) := by decide +kernel
theorem dX5_init_59 : decode cX5_init 59 = .ok (.newarray .int, 2) := by decide +kernel
theorem dX5_init_61 : decode cX5_init 61 = .ok (.putfield 29, 3) := by decide +kernel
theorem dX5_init_64 : decode cX5_init 64 = .ok (.aload_n 0, 1) := by decide +kernel
theorem dX5_init_65 : decode cX5_init 65 = .ok (.sipush 512, 3) := by decide +kernel
theorem dX5_init_68 : decode cX5_init 68 = .ok (.newarray .int, 2) := by decide +kernel
theorem dX5_init_70 : decode cX5_init 70 = .ok (.putfield 32, 3) := by decide +kernel
theorem dX5_init_73 : decode cX5_init 73 = .ok (.aload_n 0, 1) := by decide +kernel
theorem dX5_init_74 : decode cX5_init 74 = .ok (.sipush 512, 3) := by decide +kernel
theorem dX5_init_77 : decode cX5_init 77 = .ok (.newarray .int, 2) := by decide +kernel
theorem dX5_init_79 : decode cX5_init 79 = .ok (.putfield 35, 3) := by decide +kernel
theorem dX5_init_82 : decode cX5_init 82 = .ok (.aload_n 0, 1) := by decide +kernel
theorem dX5_init_83 : decode cX5_init 83 = .ok (.bipush 49, 2) := by decide +kernel
theorem dX5_init_85 : decode cX5_init 85 = .ok (.newarray .int, 2) := by decide +kernel
theorem dX5_init_87 : decode cX5_init 87 = .ok (.putfield 38, 3) := by decide +kernel
theorem dX5_init_90 : decode cX5_init 90 = .ok (.aload_n 0, 1) := by decide +kernel
theorem dX5_init_91 : decode cX5_init 91 = .ok (.bipush 49, 2) := by decide +kernel
theorem dX5_init_93 : decode cX5_init 93 = .ok (.newarray .int, 2) := by decide +kernel
theorem dX5_init_95 : decode cX5_init 95 = .ok (.putfield 41, 3) := by decide +kernel
theorem dX5_init_98 : decode cX5_init 98 = .ok (.return_, 1) := by decide +kernel
theorem dX5_in_0 : decode cX5_in 0 = .ok (.iload_n 0, 1) := by decide +kernel
theorem dX5_in_1 : decode cX5_in 1 = .ok (.iload_n 1, 1) := by decide +kernel
theorem dX5_in_2 : decode cX5_in 2 = .ok (.if_icmp .lt 12, 3) := by decide +kernel
theorem dX5_in_5 : decode cX5_in 5 = .ok (.iload_n 0, 1) := by decide +kernel
theorem dX5_in_6 : decode cX5_in 6 = .ok (.iload_n 2, 1) := by decide +kernel
theorem dX5_in_7 : decode cX5_in 7 = .ok (.if_icmp .gt 7, 3) := by decide +kernel
theorem dX5_in_10 : decode cX5_in 10 = .ok (.iconst 1, 1) := by decide +kernel
theorem dX5_in_11 : decode cX5_in 11 = .ok (.goto 4, 3) := by decide +kernel
theorem dX5_in_14 : decode cX5_in 14 = .ok (.iconst 0, 1) := by decide +kernel
theorem dX5_in_15 : decode cX5_in 15 = .ok (.ireturn, 1) := by decide +kernel
theorem dX5_isBody_0 : decode cX5_isBody 0 = .ok (.iload_n 0, 1) := by decide +kernel
theorem dX5_isBody_1 : decode cX5_isBody 1 = .ok (.iconst 0, 1) := by decide +kernel
theorem dX5_isBody_2 : decode cX5_isBody 2 = .ok (.iconst 3, 1) := by decide +kernel
theorem dX5_isBody_3 : decode cX5_isBody 3 = .ok (.invokestatic 44, 3) := by decide +kernel
theorem dX5_isBody_6 : decode cX5_isBody 6 = .ok (.ireturn, 1) := by decide +kernel
theorem dX5_has_0 : decode cX5_has 0 = .ok (.iload_n 0, 1) := by decide +kernel
theorem dX5_has_1 : decode cX5_has 1 = .ok (.iload_n 1, 1) := by decide +kernel
theorem dX5_has_2 : decode cX5_has 2 = .ok (.ishr, 1) := by decide +kernel
theorem dX5_has_3 : decode cX5_has 3 = .ok (.iconst 1, 1) := by decide +kernel
theorem dX5_has_4 : decode cX5_has 4 = .ok (.iand, 1) := by decide +kernel
theorem dX5_has_5 : decode cX5_has 5 = .ok (.iconst 1, 1) := by decide +kernel
theorem dX5_has_6 : decode cX5_has 6 = .ok (.if_icmp .ne 7, 3) := by decide +kernel
theorem dX5_has_9 : decode cX5_has 9 = .ok (.iconst 1, 1) := by decide +kernel
theorem dX5_has_10 : decode cX5_has 10 = .ok (.goto 4, 3) := by decide +kernel
theorem dX5_has_13 : decode cX5_has 13 = .ok (.iconst 0, 1) := by decide +kernel
theorem dX5_has_14 : decode cX5_has 14 = .ok (.ireturn, 1) := by decide +kernel
theorem dX5_many_0 : decode cX5_many 0 = .ok (.aload_n 0, 1) := by decide +kernel
theorem dX5_many_1 : decode cX5_many 1 = .ok (.getfield 7, 3) := by decide +kernel
theorem dX5_many_4 : decode cX5_many 4 = .ok (.iconst 0, 1) := by decide +kernel
theorem dX5_many_5 : decode cX5_many 5 = .ok (.iload_n 1, 1) := by decide +kernel
theorem dX5_many_6 : decode cX5_many 6 = .ok (.iadd, 1) := by decide +kernel
theorem dX5_many_7 : decode cX5_many 7 = .ok (.iaload, 1) := by decide +kernel
theorem dX5_many_8 : decode cX5_many 8 = .ok (.ireturn, 1) := by decide +kernel
theorem dX5_at_0 : decode cX5_at 0 = .ok (.iconst 4, 1) := by decide +kernel
theorem dX5_at_1 : decode cX5_at 1 = .ok (.bipush 21, 2) := by decide +kernel
theorem dX5_at_3 : decode cX5_at 3 = .ok (.iload_n 0, 1) := by decide +kernel
theorem dX5_at_4 : decode cX5_at 4 = .ok (.imul, 1) := by decide +kernel
theorem dX5_at_5 : decode cX5_at 5 = .ok (.iadd, 1) := by decide +kernel
theorem dX5_at_6 : decode cX5_at 6 = .ok (.iconst 3, 1) := by decide +kernel
theorem dX5_at_7 : decode cX5_at 7 = .ok (.iload_n 1, 1) := by decide +kernel
theorem dX5_at_8 : decode cX5_at 8 = .ok (.imul, 1) := by decide +kernel
theorem dX5_at_9 : decode cX5_at 9 = .ok (.iadd, 1) := by decide +kernel
theorem dX5_at_10 : decode cX5_at 10 = .ok (.iload_n 2, 1) := by decide +kernel
theorem dX5_at_11 : decode cX5_at 11 = .ok (.iadd, 1) := by decide +kernel
theorem dX5_at_12 : decode cX5_at 12 = .ok (.ireturn, 1) := by decide +kernel
theorem dX5_of_0 : decode cX5_of 0 = .ok (.aload_n 0, 1) := by decide +kernel
theorem dX5_of_1 : decode cX5_of 1 = .ok (.getfield 7, 3) := by decide +kernel
theorem dX5_of_4 : decode cX5_of 4 = .ok (.iload_n 1, 1) := by decide +kernel
theorem dX5_of_5 : decode cX5_of 5 = .ok (.iload_n 2, 1) := by decide +kernel
theorem dX5_of_6 : decode cX5_of 6 = .ok (.iload_n 3, 1) := by decide +kernel
theorem dX5_of_7 : decode cX5_of 7 = .ok (.invokestatic 48, 3) := by decide +kernel
theorem dX5_of_10 : decode cX5_of 10 = .ok (.iaload, 1) := by decide +kernel
theorem dX5_of_11 : decode cX5_of 11 = .ok (.ireturn, 1) := by decide +kernel
theorem dX5_put_0 : decode cX5_put 0 = .ok (.iload_n 1, 1) := by decide +kernel
theorem dX5_put_1 : decode cX5_put 1 = .ok (.invokestatic 52, 3) := by decide +kernel
theorem dX5_put_4 : decode cX5_put 4 = .ok (.ifCond .ne 5, 3) := by decide +kernel
theorem dX5_put_7 : decode cX5_put 7 = .ok (.iconst (-1), 1) := by decide +kernel
theorem dX5_put_8 : decode cX5_put 8 = .ok (.ireturn, 1) := by decide +kernel
theorem dX5_put_9 : decode cX5_put 9 = .ok (.iload_n 2, 1) := by decide +kernel
theorem dX5_put_10 : decode cX5_put 10 = .ok (.iconst 0, 1) := by decide +kernel
theorem dX5_put_11 : decode cX5_put 11 = .ok (.bipush 12, 2) := by decide +kernel
theorem dX5_put_13 : decode cX5_put 13 = .ok (.invokestatic 44, 3) := by decide +kernel
theorem dX5_put_16 : decode cX5_put 16 = .ok (.ifCond .eq 24, 3) := by decide +kernel
theorem dX5_put_19 : decode cX5_put 19 = .ok (.iload_n 3, 1) := by decide +kernel
theorem dX5_put_20 : decode cX5_put 20 = .ok (.iconst 0, 1) := by decide +kernel
theorem dX5_put_21 : decode cX5_put 21 = .ok (.bipush 12, 2) := by decide +kernel
theorem dX5_put_23 : decode cX5_put 23 = .ok (.invokestatic 44, 3) := by decide +kernel
theorem dX5_put_26 : decode cX5_put 26 = .ok (.ifCond .eq 14, 3) := by decide +kernel
theorem dX5_put_29 : decode cX5_put 29 = .ok (.iload 4, 2) := by decide +kernel
theorem dX5_put_31 : decode cX5_put 31 = .ok (.iconst 0, 1) := by decide +kernel
theorem dX5_put_32 : decode cX5_put 32 = .ok (.bipush 50, 2) := by decide +kernel
theorem dX5_put_34 : decode cX5_put 34 = .ok (.invokestatic 44, 3) := by decide +kernel
theorem dX5_put_37 : decode cX5_put 37 = .ok (.ifCond .ne 6, 3) := by decide +kernel
theorem dX5_put_40 : decode cX5_put 40 = .ok (.bipush (-2), 2) := by decide +kernel
theorem dX5_put_42 : decode cX5_put 42 = .ok (.ireturn, 1) := by decide +kernel
theorem dX5_put_43 : decode cX5_put 43 = .ok (.iconst 0, 1) := by decide +kernel
theorem dX5_put_44 : decode cX5_put 44 = .ok (.istore 5, 2) := by decide +kernel
theorem dX5_put_46 : decode cX5_put 46 = .ok (.iload 5, 2) := by decide +kernel
theorem dX5_put_48 : decode cX5_put 48 = .ok (.aload_n 0, 1) := by decide +kernel
theorem dX5_put_49 : decode cX5_put 49 = .ok (.iload_n 1, 1) := by decide +kernel
theorem dX5_put_50 : decode cX5_put 50 = .ok (.invokevirtual 56, 3) := by decide +kernel
theorem dX5_put_53 : decode cX5_put 53 = .ok (.if_icmp .ge 33, 3) := by decide +kernel
theorem dX5_put_56 : decode cX5_put 56 = .ok (.aload_n 0, 1) := by decide +kernel
theorem dX5_put_57 : decode cX5_put 57 = .ok (.iload_n 1, 1) := by decide +kernel
theorem dX5_put_58 : decode cX5_put 58 = .ok (.iload 5, 2) := by decide +kernel
theorem dX5_put_60 : decode cX5_put 60 = .ok (.iconst 0, 1) := by decide +kernel
theorem dX5_put_61 : decode cX5_put 61 = .ok (.invokevirtual 60, 3) := by decide +kernel
theorem dX5_put_64 : decode cX5_put 64 = .ok (.iload_n 2, 1) := by decide +kernel
theorem dX5_put_65 : decode cX5_put 65 = .ok (.if_icmp .ne 15, 3) := by decide +kernel
theorem dX5_put_68 : decode cX5_put 68 = .ok (.aload_n 0, 1) := by decide +kernel
theorem dX5_put_69 : decode cX5_put 69 = .ok (.iload_n 1, 1) := by decide +kernel
theorem dX5_put_70 : decode cX5_put 70 = .ok (.iload 5, 2) := by decide +kernel
theorem dX5_put_72 : decode cX5_put 72 = .ok (.iconst 1, 1) := by decide +kernel
theorem dX5_put_73 : decode cX5_put 73 = .ok (.invokevirtual 60, 3) := by decide +kernel
theorem dX5_put_76 : decode cX5_put 76 = .ok (.iload_n 3, 1) := by decide +kernel
theorem dX5_put_77 : decode cX5_put 77 = .ok (.if_icmp .eq 9, 3) := by decide +kernel
theorem dX5_put_80 : decode cX5_put 80 = .ok (.iinc 5 1, 3) := by decide +kernel
theorem dX5_put_83 : decode cX5_put 83 = .ok (.goto (-37), 3) := by decide +kernel
theorem dX5_put_86 : decode cX5_put 86 = .ok (.iload 5, 2) := by decide +kernel
theorem dX5_put_88 : decode cX5_put 88 = .ok (.bipush 7, 2) := by decide +kernel
theorem dX5_put_90 : decode cX5_put 90 = .ok (.if_icmp .ne 6, 3) := by decide +kernel
theorem dX5_put_93 : decode cX5_put 93 = .ok (.bipush (-4), 2) := by decide +kernel
theorem dX5_put_95 : decode cX5_put 95 = .ok (.ireturn, 1) := by decide +kernel
theorem dX5_put_96 : decode cX5_put 96 = .ok (.aload_n 0, 1) := by decide +kernel
theorem dX5_put_97 : decode cX5_put 97 = .ok (.getfield 7, 3) := by decide +kernel
theorem dX5_put_100 : decode cX5_put 100 = .ok (.iconst 0, 1) := by decide +kernel
theorem dX5_put_101 : decode cX5_put 101 = .ok (.iload_n 1, 1) := by decide +kernel
theorem dX5_put_102 : decode cX5_put 102 = .ok (.iadd, 1) := by decide +kernel
theorem dX5_put_103 : decode cX5_put 103 = .ok (.iload 5, 2) := by decide +kernel
theorem dX5_put_105 : decode cX5_put 105 = .ok (.aload_n 0, 1) := by decide +kernel
theorem dX5_put_106 : decode cX5_put 106 = .ok (.iload_n 1, 1) := by decide +kernel
theorem dX5_put_107 : decode cX5_put 107 = .ok (.invokevirtual 56, 3) := by decide +kernel
theorem dX5_put_110 : decode cX5_put 110 = .ok (.if_icmp .ne 10, 3) := by decide +kernel
theorem dX5_put_113 : decode cX5_put 113 = .ok (.iload 5, 2) := by decide +kernel
theorem dX5_put_115 : decode cX5_put 115 = .ok (.iconst 1, 1) := by decide +kernel
theorem dX5_put_116 : decode cX5_put 116 = .ok (.iadd, 1) := by decide +kernel
theorem dX5_put_117 : decode cX5_put 117 = .ok (.goto 8, 3) := by decide +kernel
theorem dX5_put_120 : decode cX5_put 120 = .ok (.aload_n 0, 1) := by decide +kernel
theorem dX5_put_121 : decode cX5_put 121 = .ok (.iload_n 1, 1) := by decide +kernel
theorem dX5_put_122 : decode cX5_put 122 = .ok (.invokevirtual 56, 3) := by decide +kernel
theorem dX5_put_125 : decode cX5_put 125 = .ok (.iastore, 1) := by decide +kernel
theorem dX5_put_126 : decode cX5_put 126 = .ok (.aload_n 0, 1) := by decide +kernel
theorem dX5_put_127 : decode cX5_put 127 = .ok (.getfield 7, 3) := by decide +kernel
theorem dX5_put_130 : decode cX5_put 130 = .ok (.iload_n 1, 1) := by decide +kernel
theorem dX5_put_131 : decode cX5_put 131 = .ok (.iload 5, 2) := by decide +kernel
theorem dX5_put_133 : decode cX5_put 133 = .ok (.iconst 0, 1) := by decide +kernel
theorem dX5_put_134 : decode cX5_put 134 = .ok (.invokestatic 48, 3) := by decide +kernel
theorem dX5_put_137 : decode cX5_put 137 = .ok (.iload_n 2, 1) := by decide +kernel
theorem dX5_put_138 : decode cX5_put 138 = .ok (.iastore, 1) := by decide +kernel
theorem dX5_put_139 : decode cX5_put 139 = .ok (.aload_n 0, 1) := by decide +kernel
theorem dX5_put_140 : decode cX5_put 140 = .ok (.getfield 7, 3) := by decide +kernel
theorem dX5_put_143 : decode cX5_put 143 = .ok (.iload_n 1, 1) := by decide +kernel
theorem dX5_put_144 : decode cX5_put 144 = .ok (.iload 5, 2) := by decide +kernel
theorem dX5_put_146 : decode cX5_put 146 = .ok (.iconst 1, 1) := by decide +kernel
theorem dX5_put_147 : decode cX5_put 147 = .ok (.invokestatic 48, 3) := by decide +kernel
theorem dX5_put_150 : decode cX5_put 150 = .ok (.iload_n 3, 1) := by decide +kernel
theorem dX5_put_151 : decode cX5_put 151 = .ok (.iastore, 1) := by decide +kernel
theorem dX5_put_152 : decode cX5_put 152 = .ok (.aload_n 0, 1) := by decide +kernel
theorem dX5_put_153 : decode cX5_put 153 = .ok (.getfield 7, 3) := by decide +kernel
theorem dX5_put_156 : decode cX5_put 156 = .ok (.iload_n 1, 1) := by decide +kernel
theorem dX5_put_157 : decode cX5_put 157 = .ok (.iload 5, 2) := by decide +kernel
theorem dX5_put_159 : decode cX5_put 159 = .ok (.iconst 2, 1) := by decide +kernel
theorem dX5_put_160 : decode cX5_put 160 = .ok (.invokestatic 48, 3) := by decide +kernel
theorem dX5_put_163 : decode cX5_put 163 = .ok (.iload 4, 2) := by decide +kernel
theorem dX5_put_165 : decode cX5_put 165 = .ok (.iastore, 1) := by decide +kernel
theorem dX5_put_166 : decode cX5_put 166 = .ok (.iload 5, 2) := by decide +kernel
theorem dX5_put_168 : decode cX5_put 168 = .ok (.ireturn, 1) := by decide +kernel
theorem dX5_take_0 : decode cX5_take 0 = .ok (.iload_n 1, 1) := by decide +kernel
theorem dX5_take_1 : decode cX5_take 1 = .ok (.invokestatic 52, 3) := by decide +kernel
theorem dX5_take_4 : decode cX5_take 4 = .ok (.ifCond .ne 5, 3) := by decide +kernel
theorem dX5_take_7 : decode cX5_take 7 = .ok (.iconst (-1), 1) := by decide +kernel
theorem dX5_take_8 : decode cX5_take 8 = .ok (.ireturn, 1) := by decide +kernel
theorem dX5_take_9 : decode cX5_take 9 = .ok (.iload_n 2, 1) := by decide +kernel
theorem dX5_take_10 : decode cX5_take 10 = .ok (.iconst 0, 1) := by decide +kernel
theorem dX5_take_11 : decode cX5_take 11 = .ok (.aload_n 0, 1) := by decide +kernel
theorem dX5_take_12 : decode cX5_take 12 = .ok (.iload_n 1, 1) := by decide +kernel
theorem dX5_take_13 : decode cX5_take 13 = .ok (.invokevirtual 56, 3) := by decide +kernel
theorem dX5_take_16 : decode cX5_take 16 = .ok (.iconst 1, 1) := by decide +kernel
theorem dX5_take_17 : decode cX5_take 17 = .ok (.isub, 1) := by decide +kernel
theorem dX5_take_18 : decode cX5_take 18 = .ok (.invokestatic 44, 3) := by decide +kernel
theorem dX5_take_21 : decode cX5_take 21 = .ok (.ifCond .ne 6, 3) := by decide +kernel
theorem dX5_take_24 : decode cX5_take 24 = .ok (.bipush (-2), 2) := by decide +kernel
theorem dX5_take_26 : decode cX5_take 26 = .ok (.ireturn, 1) := by decide +kernel
theorem dX5_take_27 : decode cX5_take 27 = .ok (.aload_n 0, 1) := by decide +kernel
theorem dX5_take_28 : decode cX5_take 28 = .ok (.getfield 7, 3) := by decide +kernel
theorem dX5_take_31 : decode cX5_take 31 = .ok (.iconst 0, 1) := by decide +kernel
theorem dX5_take_32 : decode cX5_take 32 = .ok (.iload_n 1, 1) := by decide +kernel
theorem dX5_take_33 : decode cX5_take 33 = .ok (.iadd, 1) := by decide +kernel
theorem dX5_take_34 : decode cX5_take 34 = .ok (.dup2, 1) := by decide +kernel
theorem dX5_take_35 : decode cX5_take 35 = .ok (.iaload, 1) := by decide +kernel
theorem dX5_take_36 : decode cX5_take 36 = .ok (.iconst 1, 1) := by decide +kernel
theorem dX5_take_37 : decode cX5_take 37 = .ok (.isub, 1) := by decide +kernel
theorem dX5_take_38 : decode cX5_take 38 = .ok (.iastore, 1) := by decide +kernel
theorem dX5_take_39 : decode cX5_take 39 = .ok (.iload_n 1, 1) := by decide +kernel
theorem dX5_take_40 : decode cX5_take 40 = .ok (.iload_n 2, 1) := by decide +kernel
theorem dX5_take_41 : decode cX5_take 41 = .ok (.iconst 0, 1) := by decide +kernel
theorem dX5_take_42 : decode cX5_take 42 = .ok (.invokestatic 48, 3) := by decide +kernel
theorem dX5_take_45 : decode cX5_take 45 = .ok (.istore_n 3, 1) := by decide +kernel
theorem dX5_take_46 : decode cX5_take 46 = .ok (.iload_n 3, 1) := by decide +kernel
theorem dX5_take_47 : decode cX5_take 47 = .ok (.iload_n 1, 1) := by decide +kernel
theorem dX5_take_48 : decode cX5_take 48 = .ok (.aload_n 0, 1) := by decide +kernel
theorem dX5_take_49 : decode cX5_take 49 = .ok (.iload_n 1, 1) := by decide +kernel
theorem dX5_take_50 : decode cX5_take 50 = .ok (.invokevirtual 56, 3) := by decide +kernel
theorem dX5_take_53 : decode cX5_take 53 = .ok (.iconst 0, 1) := by decide +kernel
theorem dX5_take_54 : decode cX5_take 54 = .ok (.invokestatic 48, 3) := by decide +kernel
theorem dX5_take_57 : decode cX5_take 57 = .ok (.if_icmp .ge 23, 3) := by decide +kernel
theorem dX5_take_60 : decode cX5_take 60 = .ok (.aload_n 0, 1) := by decide +kernel
theorem dX5_take_61 : decode cX5_take 61 = .ok (.getfield 7, 3) := by decide +kernel
theorem dX5_take_64 : decode cX5_take 64 = .ok (.iload_n 3, 1) := by decide +kernel
theorem dX5_take_65 : decode cX5_take 65 = .ok (.aload_n 0, 1) := by decide +kernel
theorem dX5_take_66 : decode cX5_take 66 = .ok (.getfield 7, 3) := by decide +kernel
theorem dX5_take_69 : decode cX5_take 69 = .ok (.iload_n 3, 1) := by decide +kernel
theorem dX5_take_70 : decode cX5_take 70 = .ok (.iconst 3, 1) := by decide +kernel
theorem dX5_take_71 : decode cX5_take 71 = .ok (.iadd, 1) := by decide +kernel
theorem dX5_take_72 : decode cX5_take 72 = .ok (.iaload, 1) := by decide +kernel
theorem dX5_take_73 : decode cX5_take 73 = .ok (.iastore, 1) := by decide +kernel
theorem dX5_take_74 : decode cX5_take 74 = .ok (.iinc 3 1, 3) := by decide +kernel
theorem dX5_take_77 : decode cX5_take 77 = .ok (.goto (-31), 3) := by decide +kernel
theorem dX5_take_80 : decode cX5_take 80 = .ok (.aload_n 0, 1) := by decide +kernel
theorem dX5_take_81 : decode cX5_take 81 = .ok (.iload_n 1, 1) := by decide +kernel
theorem dX5_take_82 : decode cX5_take 82 = .ok (.invokevirtual 56, 3) := by decide +kernel
theorem dX5_take_85 : decode cX5_take 85 = .ok (.ireturn, 1) := by decide +kernel

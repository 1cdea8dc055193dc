theorem dX5_compare_41 : decode cX5_compare 41 = .ok (.getfield 32, 3) := by decide +kernel
theorem dX5_compare_44 : decode cX5_compare 44 = .ok (.iload 4, 2) := by decide +kernel
theorem dX5_compare_46 : decode cX5_compare 46 = .ok (.iaload, 1) := by decide +kernel
theorem dX5_compare_47 : decode cX5_compare 47 = .ok (.iload_n 3, 1) := by decide +kernel
theorem dX5_compare_48 : decode cX5_compare 48 = .ok (.imul, 1) := by decide +kernel
theorem dX5_compare_49 : decode cX5_compare 49 = .ok (.isub, 1) := by decide +kernel
theorem dX5_compare_50 : decode cX5_compare 50 = .ok (.ireturn, 1) := by decide +kernel
theorem dX5_addCell_0 : decode cX5_addCell 0 = .ok (.iconst 0, 1) := by decide +kernel
theorem dX5_addCell_1 : decode cX5_addCell 1 = .ok (.istore 4, 2) := by decide +kernel
theorem dX5_addCell_3 : decode cX5_addCell 3 = .ok (.iload 4, 2) := by decide +kernel
theorem dX5_addCell_5 : decode cX5_addCell 5 = .ok (.aload_n 0, 1) := by decide +kernel
theorem dX5_addCell_6 : decode cX5_addCell 6 = .ok (.getfield 118, 3) := by decide +kernel
theorem dX5_addCell_9 : decode cX5_addCell 9 = .ok (.if_icmp .ge 21, 3) := by decide +kernel
theorem dX5_addCell_12 : decode cX5_addCell 12 = .ok (.aload_n 0, 1) := by decide +kernel
theorem dX5_addCell_13 : decode cX5_addCell 13 = .ok (.iload_n 1, 1) := by decide +kernel
theorem dX5_addCell_14 : decode cX5_addCell 14 = .ok (.iload_n 2, 1) := by decide +kernel
theorem dX5_addCell_15 : decode cX5_addCell 15 = .ok (.iload_n 3, 1) := by decide +kernel
theorem dX5_addCell_16 : decode cX5_addCell 16 = .ok (.iload 4, 2) := by decide +kernel
theorem dX5_addCell_18 : decode cX5_addCell 18 = .ok (.invokevirtual 121, 3) := by decide +kernel
theorem dX5_addCell_21 : decode cX5_addCell 21 = .ok (.ifCond .le 9, 3) := by decide +kernel
theorem dX5_addCell_24 : decode cX5_addCell 24 = .ok (.iinc 4 1, 3) := by decide +kernel
theorem dX5_addCell_27 : decode cX5_addCell 27 = .ok (.goto (-24), 3) := by decide +kernel
theorem dX5_addCell_30 : decode cX5_addCell 30 = .ok (.iload 4, 2) := by decide +kernel
theorem dX5_addCell_32 : decode cX5_addCell 32 = .ok (.aload_n 0, 1) := by decide +kernel
theorem dX5_addCell_33 : decode cX5_addCell 33 = .ok (.getfield 118, 3) := by decide +kernel
theorem dX5_addCell_36 : decode cX5_addCell 36 = .ok (.if_icmp .ge 16, 3) := by decide +kernel
theorem dX5_addCell_39 : decode cX5_addCell 39 = .ok (.aload_n 0, 1) := by decide +kernel
theorem dX5_addCell_40 : decode cX5_addCell 40 = .ok (.iload_n 1, 1) := by decide +kernel
theorem dX5_addCell_41 : decode cX5_addCell 41 = .ok (.iload_n 2, 1) := by decide +kernel
theorem dX5_addCell_42 : decode cX5_addCell 42 = .ok (.iload_n 3, 1) := by decide +kernel
theorem dX5_addCell_43 : decode cX5_addCell 43 = .ok (.iload 4, 2) := by decide +kernel
theorem dX5_addCell_45 : decode cX5_addCell 45 = .ok (.invokevirtual 121, 3) := by decide +kernel
theorem dX5_addCell_48 : decode cX5_addCell 48 = .ok (.ifCond .ne 4, 3) := by decide +kernel
theorem dX5_addCell_51 : decode cX5_addCell 51 = .ok (.return_, 1) := by decide +kernel
theorem dX5_addCell_52 : decode cX5_addCell 52 = .ok (.aload_n 0, 1) := by decide +kernel
theorem dX5_addCell_53 : decode cX5_addCell 53 = .ok (.getfield 118, 3) := by decide +kernel
theorem dX5_addCell_56 : decode cX5_addCell 56 = .ok (.istore 5, 2) := by decide +kernel
theorem dX5_addCell_58 : decode cX5_addCell 58 = .ok (.iload 5, 2) := by decide +kernel
theorem dX5_addCell_60 : decode cX5_addCell 60 = .ok (.iload 4, 2) := by decide +kernel
theorem dX5_addCell_62 : decode cX5_addCell 62 = .ok (.if_icmp .le 57, 3) := by decide +kernel
theorem dX5_addCell_65 : decode cX5_addCell 65 = .ok (.aload_n 0, 1) := by decide +kernel
theorem dX5_addCell_66 : decode cX5_addCell 66 = .ok (.getfield 29, 3) := by decide +kernel
theorem dX5_addCell_69 : decode cX5_addCell 69 = .ok (.iload 5, 2) := by decide +kernel
theorem dX5_addCell_71 : decode cX5_addCell 71 = .ok (.aload_n 0, 1) := by decide +kernel
theorem dX5_addCell_72 : decode cX5_addCell 72 = .ok (.getfield 29, 3) := by decide +kernel
theorem dX5_addCell_75 : decode cX5_addCell 75 = .ok (.iload 5, 2) := by decide +kernel
theorem dX5_addCell_77 : decode cX5_addCell 77 = .ok (.iconst 1, 1) := by decide +kernel
theorem dX5_addCell_78 : decode cX5_addCell 78 = .ok (.isub, 1) := by decide +kernel
theorem dX5_addCell_79 : decode cX5_addCell 79 = .ok (.iaload, 1) := by decide +kernel
theorem dX5_addCell_80 : decode cX5_addCell 80 = .ok (.iastore, 1) := by decide +kernel
theorem dX5_addCell_81 : decode cX5_addCell 81 = .ok (.aload_n 0, 1) := by decide +kernel
theorem dX5_addCell_82 : decode cX5_addCell 82 = .ok (.getfield 32, 3) := by decide +kernel
theorem dX5_addCell_85 : decode cX5_addCell 85 = .ok (.iload 5, 2) := by decide +kernel
theorem dX5_addCell_87 : decode cX5_addCell 87 = .ok (.aload_n 0, 1) := by decide +kernel
theorem dX5_addCell_88 : decode cX5_addCell 88 = .ok (.getfield 32, 3) := by decide +kernel
theorem dX5_addCell_91 : decode cX5_addCell 91 = .ok (.iload 5, 2) := by decide +kernel
theorem dX5_addCell_93 : decode cX5_addCell 93 = .ok (.iconst 1, 1) := by decide +kernel
theorem dX5_addCell_94 : decode cX5_addCell 94 = .ok (.isub, 1) := by decide +kernel
theorem dX5_addCell_95 : decode cX5_addCell 95 = .ok (.iaload, 1) := by decide +kernel
theorem dX5_addCell_96 : decode cX5_addCell 96 = .ok (.iastore, 1) := by decide +kernel
theorem dX5_addCell_97 : decode cX5_addCell 97 = .ok (.aload_n 0, 1) := by decide +kernel
theorem dX5_addCell_98 : decode cX5_addCell 98 = .ok (.getfield 35, 3) := by decide +kernel
theorem dX5_addCell_101 : decode cX5_addCell 101 = .ok (.iload 5, 2) := by decide +kernel
theorem dX5_addCell_103 : decode cX5_addCell 103 = .ok (.aload_n 0, 1) := by decide +kernel
theorem dX5_addCell_104 : decode cX5_addCell 104 = .ok (.getfield 35, 3) := by decide +kernel
theorem dX5_addCell_107 : decode cX5_addCell 107 = .ok (.iload 5, 2) := by decide +kernel
theorem dX5_addCell_109 : decode cX5_addCell 109 = .ok (.iconst 1, 1) := by decide +kernel
theorem dX5_addCell_110 : decode cX5_addCell 110 = .ok (.isub, 1) := by decide +kernel
theorem dX5_addCell_111 : decode cX5_addCell 111 = .ok (.iaload, 1) := by decide +kernel
theorem dX5_addCell_112 : decode cX5_addCell 112 = .ok (.iastore, 1) := by decide +kernel
theorem dX5_addCell_113 : decode cX5_addCell 113 = .ok (.iinc 5 (-1), 3) := by decide +kernel
theorem dX5_addCell_116 : decode cX5_addCell 116 = .ok (.goto (-58), 3) := by decide +kernel
theorem dX5_addCell_119 : decode cX5_addCell 119 = .ok (.aload_n 0, 1) := by decide +kernel
theorem dX5_addCell_120 : decode cX5_addCell 120 = .ok (.getfield 29, 3) := by decide +kernel
theorem dX5_addCell_123 : decode cX5_addCell 123 = .ok (.iload 4, 2) := by decide +kernel
theorem dX5_addCell_125 : decode cX5_addCell 125 = .ok (.iload_n 1, 1) := by decide +kernel
theorem dX5_addCell_126 : decode cX5_addCell 126 = .ok (.iastore, 1) := by decide +kernel
theorem dX5_addCell_127 : decode cX5_addCell 127 = .ok (.aload_n 0, 1) := by decide +kernel
theorem dX5_addCell_128 : decode cX5_addCell 128 = .ok (.getfield 32, 3) := by decide +kernel
theorem dX5_addCell_131 : decode cX5_addCell 131 = .ok (.iload 4, 2) := by decide +kernel
theorem dX5_addCell_133 : decode cX5_addCell 133 = .ok (.iload_n 2, 1) := by decide +kernel
theorem dX5_addCell_134 : decode cX5_addCell 134 = .ok (.iastore, 1) := by decide +kernel
theorem dX5_addCell_135 : decode cX5_addCell 135 = .ok (.aload_n 0, 1) := by decide +kernel
theorem dX5_addCell_136 : decode cX5_addCell 136 = .ok (.getfield 35, 3) := by decide +kernel
theorem dX5_addCell_139 : decode cX5_addCell 139 = .ok (.iload 4, 2) := by decide +kernel
theorem dX5_addCell_141 : decode cX5_addCell 141 = .ok (.iload_n 3, 1) := by decide +kernel
theorem dX5_addCell_142 : decode cX5_addCell 142 = .ok (.iastore, 1) := by decide +kernel
theorem dX5_addCell_143 : decode cX5_addCell 143 = .ok (.aload_n 0, 1) := by decide +kernel
theorem dX5_addCell_144 : decode cX5_addCell 144 = .ok (.dup, 1) := by decide +kernel
theorem dX5_addCell_145 : decode cX5_addCell 145 = .ok (.getfield 118, 3) := by decide +kernel
theorem dX5_addCell_148 : decode cX5_addCell 148 = .ok (.iconst 1, 1) := by decide +kernel
theorem dX5_addCell_149 : decode cX5_addCell 149 = .ok (.iadd, 1) := by decide +kernel
theorem dX5_addCell_150 : decode cX5_addCell 150 = .ok (.putfield 118, 3) := by decide +kernel
theorem dX5_addCell_153 : decode cX5_addCell 153 = .ok (.return_, 1) := by decide +kernel
theorem dX5_tryThree_0 : decode cX5_tryThree 0 = .ok (.aload_n 0, 1) := by decide +kernel
theorem dX5_tryThree_1 : decode cX5_tryThree 1 = .ok (.iload_n 1, 1) := by decide +kernel
theorem dX5_tryThree_2 : decode cX5_tryThree 2 = .ok (.iload_n 2, 1) := by decide +kernel
theorem dX5_tryThree_3 : decode cX5_tryThree 3 = .ok (.iload 4, 2) := by decide +kernel
theorem dX5_tryThree_5 : decode cX5_tryThree 5 = .ok (.iconst 0, 1) := by decide +kernel
theorem dX5_tryThree_6 : decode cX5_tryThree 6 = .ok (.invokevirtual 124, 3) := by decide +kernel
theorem dX5_tryThree_9 : decode cX5_tryThree 9 = .ok (.aload_n 0, 1) := by decide +kernel
theorem dX5_tryThree_10 : decode cX5_tryThree 10 = .ok (.iload_n 1, 1) := by decide +kernel
theorem dX5_tryThree_11 : decode cX5_tryThree 11 = .ok (.iload_n 2, 1) := by decide +kernel
theorem dX5_tryThree_12 : decode cX5_tryThree 12 = .ok (.iload_n 3, 1) := by decide +kernel
theorem dX5_tryThree_13 : decode cX5_tryThree 13 = .ok (.iconst 0, 1) := by decide +kernel
theorem dX5_tryThree_14 : decode cX5_tryThree 14 = .ok (.invokevirtual 124, 3) := by decide +kernel
theorem dX5_tryThree_17 : decode cX5_tryThree 17 = .ok (.isub, 1) := by decide +kernel
theorem dX5_tryThree_18 : decode cX5_tryThree 18 = .ok (.istore 6, 2) := by decide +kernel
theorem dX5_tryThree_20 : decode cX5_tryThree 20 = .ok (.aload_n 0, 1) := by decide +kernel
theorem dX5_tryThree_21 : decode cX5_tryThree 21 = .ok (.iload_n 1, 1) := by decide +kernel
theorem dX5_tryThree_22 : decode cX5_tryThree 22 = .ok (.iload_n 2, 1) := by decide +kernel
theorem dX5_tryThree_23 : decode cX5_tryThree 23 = .ok (.iload 4, 2) := by decide +kernel
theorem dX5_tryThree_25 : decode cX5_tryThree 25 = .ok (.iconst 1, 1) := by decide +kernel
theorem dX5_tryThree_26 : decode cX5_tryThree 26 = .ok (.invokevirtual 124, 3) := by decide +kernel
theorem dX5_tryThree_29 : decode cX5_tryThree 29 = .ok (.aload_n 0, 1) := by decide +kernel
theorem dX5_tryThree_30 : decode cX5_tryThree 30 = .ok (.iload_n 1, 1) := by decide +kernel
theorem dX5_tryThree_31 : decode cX5_tryThree 31 = .ok (.iload_n 2, 1) := by decide +kernel
theorem dX5_tryThree_32 : decode cX5_tryThree 32 = .ok (.iload_n 3, 1) := by decide +kernel
theorem dX5_tryThree_33 : decode cX5_tryThree 33 = .ok (.iconst 1, 1) := by decide +kernel
theorem dX5_tryThree_34 : decode cX5_tryThree 34 = .ok (.invokevirtual 124, 3) := by decide +kernel
theorem dX5_tryThree_37 : decode cX5_tryThree 37 = .ok (.isub, 1) := by decide +kernel
theorem dX5_tryThree_38 : decode cX5_tryThree 38 = .ok (.istore 7, 2) := by decide +kernel
theorem dX5_tryThree_40 : decode cX5_tryThree 40 = .ok (.aload_n 0, 1) := by decide +kernel
theorem dX5_tryThree_41 : decode cX5_tryThree 41 = .ok (.iload_n 1, 1) := by decide +kernel
theorem dX5_tryThree_42 : decode cX5_tryThree 42 = .ok (.iload_n 2, 1) := by decide +kernel
theorem dX5_tryThree_43 : decode cX5_tryThree 43 = .ok (.iload 4, 2) := by decide +kernel
theorem dX5_tryThree_45 : decode cX5_tryThree 45 = .ok (.iconst 2, 1) := by decide +kernel
theorem dX5_tryThree_46 : decode cX5_tryThree 46 = .ok (.invokevirtual 124, 3) := by decide +kernel
theorem dX5_tryThree_49 : decode cX5_tryThree 49 = .ok (.aload_n 0, 1) := by decide +kernel
theorem dX5_tryThree_50 : decode cX5_tryThree 50 = .ok (.iload_n 1, 1) := by decide +kernel
theorem dX5_tryThree_51 : decode cX5_tryThree 51 = .ok (.iload_n 2, 1) := by decide +kernel
theorem dX5_tryThree_52 : decode cX5_tryThree 52 = .ok (.iload_n 3, 1) := by decide +kernel
theorem dX5_tryThree_53 : decode cX5_tryThree 53 = .ok (.iconst 2, 1) := by decide +kernel
theorem dX5_tryThree_54 : decode cX5_tryThree 54 = .ok (.invokevirtual 124, 3) := by decide +kernel
theorem dX5_tryThree_57 : decode cX5_tryThree 57 = .ok (.isub, 1) := by decide +kernel
theorem dX5_tryThree_58 : decode cX5_tryThree 58 = .ok (.istore 8, 2) := by decide +kernel
theorem dX5_tryThree_60 : decode cX5_tryThree 60 = .ok (.aload_n 0, 1) := by decide +kernel
theorem dX5_tryThree_61 : decode cX5_tryThree 61 = .ok (.iload_n 1, 1) := by decide +kernel
theorem dX5_tryThree_62 : decode cX5_tryThree 62 = .ok (.iload_n 2, 1) := by decide +kernel
theorem dX5_tryThree_63 : decode cX5_tryThree 63 = .ok (.iload 5, 2) := by decide +kernel
theorem dX5_tryThree_65 : decode cX5_tryThree 65 = .ok (.iconst 0, 1) := by decide +kernel
theorem dX5_tryThree_66 : decode cX5_tryThree 66 = .ok (.invokevirtual 124, 3) := by decide +kernel
theorem dX5_tryThree_69 : decode cX5_tryThree 69 = .ok (.aload_n 0, 1) := by decide +kernel
theorem dX5_tryThree_70 : decode cX5_tryThree 70 = .ok (.iload_n 1, 1) := by decide +kernel
theorem dX5_tryThree_71 : decode cX5_tryThree 71 = .ok (.iload_n 2, 1) := by decide +kernel
theorem dX5_tryThree_72 : decode cX5_tryThree 72 = .ok (.iload_n 3, 1) := by decide +kernel
theorem dX5_tryThree_73 : decode cX5_tryThree 73 = .ok (.iconst 0, 1) := by decide +kernel
theorem dX5_tryThree_74 : decode cX5_tryThree 74 = .ok (.invokevirtual 124, 3) := by decide +kernel
theorem dX5_tryThree_77 : decode cX5_tryThree 77 = .ok (.isub, 1) := by decide +kernel
theorem dX5_tryThree_78 : decode cX5_tryThree 78 = .ok (.istore 9, 2) := by decide +kernel
theorem dX5_tryThree_80 : decode cX5_tryThree 80 = .ok (.aload_n 0, 1) := by decide +kernel
theorem dX5_tryThree_81 : decode cX5_tryThree 81 = .ok (.iload_n 1, 1) := by decide +kernel
theorem dX5_tryThree_82 : decode cX5_tryThree 82 = .ok (.iload_n 2, 1) := by decide +kernel
theorem dX5_tryThree_83 : decode cX5_tryThree 83 = .ok (.iload 5, 2) := by decide +kernel
theorem dX5_tryThree_85 : decode cX5_tryThree 85 = .ok (.iconst 1, 1) := by decide +kernel
theorem dX5_tryThree_86 : decode cX5_tryThree 86 = .ok (.invokevirtual 124, 3) := by decide +kernel
theorem dX5_tryThree_89 : decode cX5_tryThree 89 = .ok (.aload_n 0, 1) := by decide +kernel
theorem dX5_tryThree_90 : decode cX5_tryThree 90 = .ok (.iload_n 1, 1) := by decide +kernel
theorem dX5_tryThree_91 : decode cX5_tryThree 91 = .ok (.iload_n 2, 1) := by decide +kernel
theorem dX5_tryThree_92 : decode cX5_tryThree 92 = .ok (.iload_n 3, 1) := by decide +kernel
theorem dX5_tryThree_93 : decode cX5_tryThree 93 = .ok (.iconst 1, 1) := by decide +kernel
theorem dX5_tryThree_94 : decode cX5_tryThree 94 = .ok (.invokevirtual 124, 3) := by decide +kernel
theorem dX5_tryThree_97 : decode cX5_tryThree 97 = .ok (.isub, 1) := by decide +kernel
theorem dX5_tryThree_98 : decode cX5_tryThree 98 = .ok (.istore 10, 2) := by decide +kernel
theorem dX5_tryThree_100 : decode cX5_tryThree 100 = .ok (.aload_n 0, 1) := by decide +kernel
theorem dX5_tryThree_101 : decode cX5_tryThree 101 = .ok (.iload_n 1, 1) := by decide +kernel
theorem dX5_tryThree_102 : decode cX5_tryThree 102 = .ok (.iload_n 2, 1) := by decide +kernel
theorem dX5_tryThree_103 : decode cX5_tryThree 103 = .ok (.iload 5, 2) := by decide +kernel
theorem dX5_tryThree_105 : decode cX5_tryThree 105 = .ok (.iconst 2, 1) := by decide +kernel
theorem dX5_tryThree_106 : decode cX5_tryThree 106 = .ok (.invokevirtual 124, 3) := by decide +kernel
theorem dX5_tryThree_109 : decode cX5_tryThree 109 = .ok (.aload_n 0, 1) := by decide +kernel
theorem dX5_tryThree_110 : decode cX5_tryThree 110 = .ok (.iload_n 1, 1) := by decide +kernel
theorem dX5_tryThree_111 : decode cX5_tryThree 111 = .ok (.iload_n 2, 1) := by decide +kernel
theorem dX5_tryThree_112 : decode cX5_tryThree 112 = .ok (.iload_n 3, 1) := by decide +kernel
theorem dX5_tryThree_113 : decode cX5_tryThree 113 = .ok (.iconst 2, 1) := by decide +kernel
theorem dX5_tryThree_114 : decode cX5_tryThree 114 = .ok (.invokevirtual 124, 3) := by decide +kernel
theorem dX5_tryThree_117 : decode cX5_tryThree 117 = .ok (.isub, 1) := by decide +kernel
theorem dX5_tryThree_118 : decode cX5_tryThree 118 = .ok (.istore 11, 2) := by decide +kernel
theorem dX5_tryThree_120 : decode cX5_tryThree 120 = .ok (.iload 6, 2) := by decide +kernel
theorem dX5_tryThree_122 : decode cX5_tryThree 122 = .ok (.iload 10, 2) := by decide +kernel
theorem dX5_tryThree_124 : decode cX5_tryThree 124 = .ok (.imul, 1) := by decide +kernel
theorem dX5_tryThree_125 : decode cX5_tryThree 125 = .ok (.iload 9, 2) := by decide +kernel
theorem dX5_tryThree_127 : decode cX5_tryThree 127 = .ok (.iload 7, 2) := by decide +kernel
theorem dX5_tryThree_129 : decode cX5_tryThree 129 = .ok (.imul, 1) := by decide +kernel
theorem dX5_tryThree_130 : decode cX5_tryThree 130 = .ok (.isub, 1) := by decide +kernel
theorem dX5_tryThree_131 : decode cX5_tryThree 131 = .ok (.istore 12, 2) := by decide +kernel
theorem dX5_tryThree_133 : decode cX5_tryThree 133 = .ok (.iload 12, 2) := by decide +kernel
theorem dX5_tryThree_135 : decode cX5_tryThree 135 = .ok (.ifCond .ne 4, 3) := by decide +kernel
theorem dX5_tryThree_138 : decode cX5_tryThree 138 = .ok (.return_, 1) := by decide +kernel
theorem dX5_tryThree_139 : decode cX5_tryThree 139 = .ok (.iload 12, 2) := by decide +kernel
theorem dX5_tryThree_141 : decode cX5_tryThree 141 = .ok (.ifCond .le 7, 3) := by decide +kernel
theorem dX5_tryThree_144 : decode cX5_tryThree 144 = .ok (.iconst 1, 1) := by decide +kernel
theorem dX5_tryThree_145 : decode cX5_tryThree 145 = .ok (.goto 4, 3) := by decide +kernel
theorem dX5_tryThree_148 : decode cX5_tryThree 148 = .ok (.iconst (-1), 1) := by decide +kernel
theorem dX5_tryThree_149 : decode cX5_tryThree 149 = .ok (.istore 13, 2) := by decide +kernel
theorem dX5_tryThree_151 : decode cX5_tryThree 151 = .ok (.iload 13, 2) := by decide +kernel
theorem dX5_tryThree_153 : decode cX5_tryThree 153 = .ok (.iload 11, 2) := by decide +kernel
theorem dX5_tryThree_155 : decode cX5_tryThree 155 = .ok (.iload 7, 2) := by decide +kernel
theorem dX5_tryThree_157 : decode cX5_tryThree 157 = .ok (.imul, 1) := by decide +kernel
theorem dX5_tryThree_158 : decode cX5_tryThree 158 = .ok (.iload 8, 2) := by decide +kernel
theorem dX5_tryThree_160 : decode cX5_tryThree 160 = .ok (.iload 10, 2) := by decide +kernel
theorem dX5_tryThree_162 : decode cX5_tryThree 162 = .ok (.imul, 1) := by decide +kernel
theorem dX5_tryThree_163 : decode cX5_tryThree 163 = .ok (.isub, 1) := by decide +kernel
theorem dX5_tryThree_164 : decode cX5_tryThree 164 = .ok (.imul, 1) := by decide +kernel
theorem dX5_tryThree_165 : decode cX5_tryThree 165 = .ok (.istore 14, 2) := by decide +kernel
theorem dX5_tryThree_167 : decode cX5_tryThree 167 = .ok (.iload 13, 2) := by decide +kernel
theorem dX5_tryThree_169 : decode cX5_tryThree 169 = .ok (.iload 9, 2) := by decide +kernel
theorem dX5_tryThree_171 : decode cX5_tryThree 171 = .ok (.iload 8, 2) := by decide +kernel
theorem dX5_tryThree_173 : decode cX5_tryThree 173 = .ok (.imul, 1) := by decide +kernel
theorem dX5_tryThree_174 : decode cX5_tryThree 174 = .ok (.iload 6, 2) := by decide +kernel
theorem dX5_tryThree_176 : decode cX5_tryThree 176 = .ok (.iload 11, 2) := by decide +kernel
theorem dX5_tryThree_178 : decode cX5_tryThree 178 = .ok (.imul, 1) := by decide +kernel
theorem dX5_tryThree_179 : decode cX5_tryThree 179 = .ok (.isub, 1) := by decide +kernel
theorem dX5_tryThree_180 : decode cX5_tryThree 180 = .ok (.imul, 1) := by decide +kernel
theorem dX5_tryThree_181 : decode cX5_tryThree 181 = .ok (.istore 15, 2) := by decide +kernel
theorem dX5_tryThree_183 : decode cX5_tryThree 183 = .ok (.iload 12, 2) := by decide +kernel
theorem dX5_tryThree_185 : decode cX5_tryThree 185 = .ok (.iload 13, 2) := by decide +kernel
theorem dX5_tryThree_187 : decode cX5_tryThree 187 = .ok (.imul, 1) := by decide +kernel
theorem dX5_tryThree_188 : decode cX5_tryThree 188 = .ok (.istore 12, 2) := by decide +kernel
theorem dX5_tryThree_190 : decode cX5_tryThree 190 = .ok (.aload_n 0, 1) := by decide +kernel
theorem dX5_tryThree_191 : decode cX5_tryThree 191 = .ok (.iload_n 1, 1) := by decide +kernel
theorem dX5_tryThree_192 : decode cX5_tryThree 192 = .ok (.iload 14, 2) := by decide +kernel
theorem dX5_tryThree_194 : decode cX5_tryThree 194 = .ok (.iload 15, 2) := by decide +kernel
theorem dX5_tryThree_196 : decode cX5_tryThree 196 = .ok (.iload 12, 2) := by decide +kernel
theorem dX5_tryThree_198 : decode cX5_tryThree 198 = .ok (.invokevirtual 127, 3) := by decide +kernel
theorem dX5_tryThree_201 : decode cX5_tryThree 201 = .ok (.istore 16, 2) := by decide +kernel
theorem dX5_tryThree_203 : decode cX5_tryThree 203 = .ok (.aload_n 0, 1) := by decide +kernel
theorem dX5_tryThree_204 : decode cX5_tryThree 204 = .ok (.iload_n 2, 1) := by decide +kernel
theorem dX5_tryThree_205 : decode cX5_tryThree 205 = .ok (.iload 14, 2) := by decide +kernel
theorem dX5_tryThree_207 : decode cX5_tryThree 207 = .ok (.iload 15, 2) := by decide +kernel
theorem dX5_tryThree_209 : decode cX5_tryThree 209 = .ok (.iload 12, 2) := by decide +kernel
theorem dX5_tryThree_211 : decode cX5_tryThree 211 = .ok (.invokevirtual 127, 3) := by decide +kernel
theorem dX5_tryThree_214 : decode cX5_tryThree 214 = .ok (.istore 17, 2) := by decide +kernel
theorem dX5_tryThree_216 : decode cX5_tryThree 216 = .ok (.aload_n 0, 1) := by decide +kernel
theorem dX5_tryThree_217 : decode cX5_tryThree 217 = .ok (.iload_n 3, 1) := by decide +kernel
theorem dX5_tryThree_218 : decode cX5_tryThree 218 = .ok (.iload 16, 2) := by decide +kernel
theorem dX5_tryThree_220 : decode cX5_tryThree 220 = .ok (.iload 17, 2) := by decide +kernel
theorem dX5_tryThree_222 : decode cX5_tryThree 222 = .ok (.invokevirtual 130, 3) := by decide +kernel
theorem dX5_tryThree_225 : decode cX5_tryThree 225 = .ok (.ifCond .eq 39, 3) := by decide +kernel
theorem dX5_tryThree_228 : decode cX5_tryThree 228 = .ok (.aload_n 0, 1) := by decide +kernel
theorem dX5_tryThree_229 : decode cX5_tryThree 229 = .ok (.iload 4, 2) := by decide +kernel
theorem dX5_tryThree_231 : decode cX5_tryThree 231 = .ok (.iload 16, 2) := by decide +kernel
theorem dX5_tryThree_233 : decode cX5_tryThree 233 = .ok (.iload 17, 2) := by decide +kernel
theorem dX5_tryThree_235 : decode cX5_tryThree 235 = .ok (.invokevirtual 130, 3) := by decide +kernel
theorem dX5_tryThree_238 : decode cX5_tryThree 238 = .ok (.ifCond .eq 26, 3) := by decide +kernel
theorem dX5_tryThree_241 : decode cX5_tryThree 241 = .ok (.aload_n 0, 1) := by decide +kernel
theorem dX5_tryThree_242 : decode cX5_tryThree 242 = .ok (.iload 5, 2) := by decide +kernel
theorem dX5_tryThree_244 : decode cX5_tryThree 244 = .ok (.iload 16, 2) := by decide +kernel
theorem dX5_tryThree_246 : decode cX5_tryThree 246 = .ok (.iload 17, 2) := by decide +kernel
theorem dX5_tryThree_248 : decode cX5_tryThree 248 = .ok (.invokevirtual 130, 3) := by decide +kernel
theorem dX5_tryThree_251 : decode cX5_tryThree 251 = .ok (.ifCond .eq 13, 3) := by decide +kernel
theorem dX5_tryThree_254 : decode cX5_tryThree 254 = .ok (.aload_n 0, 1) := by decide +kernel
theorem dX5_tryThree_255 : decode cX5_tryThree 255 = .ok (.iload 14, 2) := by decide +kernel
theorem dX5_tryThree_257 : decode cX5_tryThree 257 = .ok (.iload 15, 2) := by decide +kernel
theorem dX5_tryThree_259 : decode cX5_tryThree 259 = .ok (.iload 12, 2) := by decide +kernel
theorem dX5_tryThree_261 : decode cX5_tryThree 261 = .ok (.invokevirtual 133, 3) := by decide +kernel
theorem dX5_tryThree_264 : decode cX5_tryThree 264 = .ok (.return_, 1) := by decide +kernel
theorem dX5_sumOf_0 : decode cX5_sumOf 0 = .ok (.aload_n 0, 1) := by decide +kernel
theorem dX5_sumOf_1 : decode cX5_sumOf 1 = .ok (.iload_n 1, 1) := by decide +kernel
theorem dX5_sumOf_2 : decode cX5_sumOf 2 = .ok (.aload_n 0, 1) := by decide +kernel
theorem dX5_sumOf_3 : decode cX5_sumOf 3 = .ok (.getfield 38, 3) := by decide +kernel
theorem dX5_sumOf_6 : decode cX5_sumOf 6 = .ok (.iload_n 3, 1) := by decide +kernel
theorem dX5_sumOf_7 : decode cX5_sumOf 7 = .ok (.iaload, 1) := by decide +kernel
theorem dX5_sumOf_8 : decode cX5_sumOf 8 = .ok (.iload 4, 2) := by decide +kernel
theorem dX5_sumOf_10 : decode cX5_sumOf 10 = .ok (.invokevirtual 60, 3) := by decide +kernel
theorem dX5_sumOf_13 : decode cX5_sumOf 13 = .ok (.aload_n 0, 1) := by decide +kernel
theorem dX5_sumOf_14 : decode cX5_sumOf 14 = .ok (.iload_n 2, 1) := by decide +kernel
theorem dX5_sumOf_15 : decode cX5_sumOf 15 = .ok (.aload_n 0, 1) := by decide +kernel
theorem dX5_sumOf_16 : decode cX5_sumOf 16 = .ok (.getfield 41, 3) := by decide +kernel
theorem dX5_sumOf_19 : decode cX5_sumOf 19 = .ok (.iload_n 3, 1) := by decide +kernel
theorem dX5_sumOf_20 : decode cX5_sumOf 20 = .ok (.iaload, 1) := by decide +kernel
theorem dX5_sumOf_21 : decode cX5_sumOf 21 = .ok (.iload 4, 2) := by decide +kernel
theorem dX5_sumOf_23 : decode cX5_sumOf 23 = .ok (.invokevirtual 60, 3) := by decide +kernel
theorem dX5_sumOf_26 : decode cX5_sumOf 26 = .ok (.iadd, 1) := by decide +kernel
theorem dX5_sumOf_27 : decode cX5_sumOf 27 = .ok (.ireturn, 1) := by decide +kernel
theorem dX5_isLow_0 : decode cX5_isLow 0 = .ok (.iload_n 2, 1) := by decide +kernel
theorem dX5_isLow_1 : decode cX5_isLow 1 = .ok (.aload_n 0, 1) := by decide +kernel
theorem dX5_isLow_2 : decode cX5_isLow 2 = .ok (.getfield 38, 3) := by decide +kernel
theorem dX5_isLow_5 : decode cX5_isLow 5 = .ok (.iload_n 1, 1) := by decide +kernel
theorem dX5_isLow_6 : decode cX5_isLow 6 = .ok (.iaload, 1) := by decide +kernel
theorem dX5_isLow_7 : decode cX5_isLow 7 = .ok (.invokestatic 80, 3) := by decide +kernel
theorem dX5_isLow_10 : decode cX5_isLow 10 = .ok (.ifCond .eq 20, 3) := by decide +kernel
theorem dX5_isLow_13 : decode cX5_isLow 13 = .ok (.iload_n 3, 1) := by decide +kernel
theorem dX5_isLow_14 : decode cX5_isLow 14 = .ok (.aload_n 0, 1) := by decide +kernel
theorem dX5_isLow_15 : decode cX5_isLow 15 = .ok (.getfield 41, 3) := by decide +kernel
theorem dX5_isLow_18 : decode cX5_isLow 18 = .ok (.iload_n 1, 1) := by decide +kernel
theorem dX5_isLow_19 : decode cX5_isLow 19 = .ok (.iaload, 1) := by decide +kernel
theorem dX5_isLow_20 : decode cX5_isLow 20 = .ok (.invokestatic 80, 3) := by decide +kernel
theorem dX5_isLow_23 : decode cX5_isLow 23 = .ok (.ifCond .eq 7, 3) := by decide +kernel
theorem dX5_isLow_26 : decode cX5_isLow 26 = .ok (.iconst 1, 1) := by decide +kernel
theorem dX5_isLow_27 : decode cX5_isLow 27 = .ok (.goto 4, 3) := by decide +kernel
theorem dX5_isLow_30 : decode cX5_isLow 30 = .ok (.iconst 0, 1) := by decide +kernel
theorem dX5_isLow_31 : decode cX5_isLow 31 = .ok (.ireturn, 1) := by decide +kernel
theorem dX5_layCells_0 : decode cX5_layCells 0 = .ok (.aload_n 0, 1) := by decide +kernel
theorem dX5_layCells_1 : decode cX5_layCells 1 = .ok (.iconst 0, 1) := by decide +kernel
theorem dX5_layCells_2 : decode cX5_layCells 2 = .ok (.putfield 118, 3) := by decide +kernel
theorem dX5_layCells_5 : decode cX5_layCells 5 = .ok (.iconst 0, 1) := by decide +kernel
theorem dX5_layCells_6 : decode cX5_layCells 6 = .ok (.istore_n 3, 1) := by decide +kernel
theorem dX5_layCells_7 : decode cX5_layCells 7 = .ok (.iconst 0, 1) := by decide +kernel
theorem dX5_layCells_8 : decode cX5_layCells 8 = .ok (.istore 4, 2) := by decide +kernel
theorem dX5_layCells_10 : decode cX5_layCells 10 = .ok (.iload 4, 2) := by decide +kernel
theorem dX5_layCells_12 : decode cX5_layCells 12 = .ok (.aload_n 0, 1) := by decide +kernel
theorem dX5_layCells_13 : decode cX5_layCells 13 = .ok (.iload_n 1, 1) := by decide +kernel
theorem dX5_layCells_14 : decode cX5_layCells 14 = .ok (.invokevirtual 56, 3) := by decide +kernel
theorem dX5_layCells_17 : decode cX5_layCells 17 = .ok (.if_icmp .ge 47, 3) := by decide +kernel
theorem dX5_layCells_20 : decode cX5_layCells 20 = .ok (.iconst 0, 1) := by decide +kernel
theorem dX5_layCells_21 : decode cX5_layCells 21 = .ok (.istore 5, 2) := by decide +kernel
theorem dX5_layCells_23 : decode cX5_layCells 23 = .ok (.iload 5, 2) := by decide +kernel
theorem dX5_layCells_25 : decode cX5_layCells 25 = .ok (.aload_n 0, 1) := by decide +kernel
theorem dX5_layCells_26 : decode cX5_layCells 26 = .ok (.iload_n 2, 1) := by decide +kernel
theorem dX5_layCells_27 : decode cX5_layCells 27 = .ok (.invokevirtual 56, 3) := by decide +kernel
theorem dX5_layCells_30 : decode cX5_layCells 30 = .ok (.if_icmp .ge 28, 3) := by decide +kernel
theorem dX5_layCells_33 : decode cX5_layCells 33 = .ok (.aload_n 0, 1) := by decide +kernel
theorem dX5_layCells_34 : decode cX5_layCells 34 = .ok (.getfield 38, 3) := by decide +kernel
theorem dX5_layCells_37 : decode cX5_layCells 37 = .ok (.iload_n 3, 1) := by decide +kernel
theorem dX5_layCells_38 : decode cX5_layCells 38 = .ok (.iload 4, 2) := by decide +kernel
theorem dX5_layCells_40 : decode cX5_layCells 40 = .ok (.iastore, 1) := by decide +kernel
theorem dX5_layCells_41 : decode cX5_layCells 41 = .ok (.aload_n 0, 1) := by decide +kernel
theorem dX5_layCells_42 : decode cX5_layCells 42 = .ok (.getfield 41, 3) := by decide +kernel
theorem dX5_layCells_45 : decode cX5_layCells 45 = .ok (.iload_n 3, 1) := by decide +kernel
theorem dX5_layCells_46 : decode cX5_layCells 46 = .ok (.iload 5, 2) := by decide +kernel
theorem dX5_layCells_48 : decode cX5_layCells 48 = .ok (.iastore, 1) := by decide +kernel
theorem dX5_layCells_49 : decode cX5_layCells 49 = .ok (.iinc 3 1, 3) := by decide +kernel
theorem dX5_layCells_52 : decode cX5_layCells 52 = .ok (.iinc 5 1, 3) := by decide +kernel
theorem dX5_layCells_55 : decode cX5_layCells 55 = .ok (.goto (-32), 3) := by decide +kernel
theorem dX5_layCells_58 : decode cX5_layCells 58 = .ok (.iinc 4 1, 3) := by decide +kernel
theorem dX5_layCells_61 : decode cX5_layCells 61 = .ok (.goto (-51), 3) := by decide +kernel
theorem dX5_layCells_64 : decode cX5_layCells 64 = .ok (.iconst 0, 1) := by decide +kernel
theorem dX5_layCells_65 : decode cX5_layCells 65 = .ok (.istore 4, 2) := by decide +kernel
theorem dX5_layCells_67 : decode cX5_layCells 67 = .ok (.iload 4, 2) := by decide +kernel
theorem dX5_layCells_69 : decode cX5_layCells 69 = .ok (.iload_n 3, 1) := by decide +kernel
theorem dX5_layCells_70 : decode cX5_layCells 70 = .ok (.if_icmp .ge 57, 3) := by decide +kernel
theorem dX5_layCells_73 : decode cX5_layCells 73 = .ok (.iload 4, 2) := by decide +kernel
theorem dX5_layCells_75 : decode cX5_layCells 75 = .ok (.iconst 1, 1) := by decide +kernel
theorem dX5_layCells_76 : decode cX5_layCells 76 = .ok (.iadd, 1) := by decide +kernel
theorem dX5_layCells_77 : decode cX5_layCells 77 = .ok (.istore 5, 2) := by decide +kernel
theorem dX5_layCells_79 : decode cX5_layCells 79 = .ok (.iload 5, 2) := by decide +kernel
theorem dX5_layCells_81 : decode cX5_layCells 81 = .ok (.iload_n 3, 1) := by decide +kernel
theorem dX5_layCells_82 : decode cX5_layCells 82 = .ok (.if_icmp .ge 39, 3) := by decide +kernel
theorem dX5_layCells_85 : decode cX5_layCells 85 = .ok (.iload 5, 2) := by decide +kernel
theorem dX5_layCells_87 : decode cX5_layCells 87 = .ok (.iconst 1, 1) := by decide +kernel
theorem dX5_layCells_88 : decode cX5_layCells 88 = .ok (.iadd, 1) := by decide +kernel
theorem dX5_layCells_89 : decode cX5_layCells 89 = .ok (.istore 6, 2) := by decide +kernel
theorem dX5_layCells_91 : decode cX5_layCells 91 = .ok (.iload 6, 2) := by decide +kernel
theorem dX5_layCells_93 : decode cX5_layCells 93 = .ok (.iload_n 3, 1) := by decide +kernel
theorem dX5_layCells_94 : decode cX5_layCells 94 = .ok (.if_icmp .ge 21, 3) := by decide +kernel
theorem dX5_layCells_97 : decode cX5_layCells 97 = .ok (.aload_n 0, 1) := by decide +kernel
theorem dX5_layCells_98 : decode cX5_layCells 98 = .ok (.iload_n 1, 1) := by decide +kernel
theorem dX5_layCells_99 : decode cX5_layCells 99 = .ok (.iload_n 2, 1) := by decide +kernel
theorem dX5_layCells_100 : decode cX5_layCells 100 = .ok (.iload 4, 2) := by decide +kernel
theorem dX5_layCells_102 : decode cX5_layCells 102 = .ok (.iload 5, 2) := by decide +kernel
theorem dX5_layCells_104 : decode cX5_layCells 104 = .ok (.iload 6, 2) := by decide +kernel
theorem dX5_layCells_106 : decode cX5_layCells 106 = .ok (.invokevirtual 137, 3) := by decide +kernel
theorem dX5_layCells_109 : decode cX5_layCells 109 = .ok (.iinc 6 1, 3) := by decide +kernel
theorem dX5_layCells_112 : decode cX5_layCells 112 = .ok (.goto (-21), 3) := by decide +kernel
theorem dX5_layCells_115 : decode cX5_layCells 115 = .ok (.iinc 5 1, 3) := by decide +kernel
theorem dX5_layCells_118 : decode cX5_layCells 118 = .ok (.goto (-39), 3) := by decide +kernel
theorem dX5_layCells_121 : decode cX5_layCells 121 = .ok (.iinc 4 1, 3) := by decide +kernel
theorem dX5_layCells_124 : decode cX5_layCells 124 = .ok (.goto (-57), 3) := by decide +kernel
theorem dX5_layCells_127 : decode cX5_layCells 127 = .ok (.return_, 1) := by decide +kernel
theorem dX5_lowOf_0 : decode cX5_lowOf 0 = .ok (.aload_n 0, 1) := by decide +kernel
theorem dX5_lowOf_1 : decode cX5_lowOf 1 = .ok (.iload_n 1, 1) := by decide +kernel
theorem dX5_lowOf_2 : decode cX5_lowOf 2 = .ok (.aload_n 0, 1) := by decide +kernel
theorem dX5_lowOf_3 : decode cX5_lowOf 3 = .ok (.getfield 29, 3) := by decide +kernel
theorem dX5_lowOf_6 : decode cX5_lowOf 6 = .ok (.iload_n 2, 1) := by decide +kernel
theorem dX5_lowOf_7 : decode cX5_lowOf 7 = .ok (.iaload, 1) := by decide +kernel
theorem dX5_lowOf_8 : decode cX5_lowOf 8 = .ok (.aload_n 0, 1) := by decide +kernel
theorem dX5_lowOf_9 : decode cX5_lowOf 9 = .ok (.getfield 32, 3) := by decide +kernel
theorem dX5_lowOf_12 : decode cX5_lowOf 12 = .ok (.iload_n 2, 1) := by decide +kernel
theorem dX5_lowOf_13 : decode cX5_lowOf 13 = .ok (.iaload, 1) := by decide +kernel
theorem dX5_lowOf_14 : decode cX5_lowOf 14 = .ok (.aload_n 0, 1) := by decide +kernel
theorem dX5_lowOf_15 : decode cX5_lowOf 15 = .ok (.getfield 35, 3) := by decide +kernel
theorem dX5_lowOf_18 : decode cX5_lowOf 18 = .ok (.iload_n 2, 1) := by decide +kernel
theorem dX5_lowOf_19 : decode cX5_lowOf 19 = .ok (.iaload, 1) := by decide +kernel
theorem dX5_lowOf_20 : decode cX5_lowOf 20 = .ok (.invokevirtual 127, 3) := by decide +kernel
theorem dX5_lowOf_23 : decode cX5_lowOf 23 = .ok (.ireturn, 1) := by decide +kernel
theorem dX5_spanOf_0 : decode cX5_spanOf 0 = .ok (.aload_n 0, 1) := by decide +kernel
theorem dX5_spanOf_1 : decode cX5_spanOf 1 = .ok (.iload_n 1, 1) := by decide +kernel
theorem dX5_spanOf_2 : decode cX5_spanOf 2 = .ok (.iload_n 2, 1) := by decide +kernel
theorem dX5_spanOf_3 : decode cX5_spanOf 3 = .ok (.invokevirtual 94, 3) := by decide +kernel
theorem dX5_spanOf_6 : decode cX5_spanOf 6 = .ok (.aload_n 0, 1) := by decide +kernel
theorem dX5_spanOf_7 : decode cX5_spanOf 7 = .ok (.invokevirtual 104, 3) := by decide +kernel
theorem dX5_spanOf_10 : decode cX5_spanOf 10 = .ok (.ireturn, 1) := by decide +kernel
theorem dX5_kindOf_0 : decode cX5_kindOf 0 = .ok (.bipush 10, 2) := by decide +kernel
theorem dX5_kindOf_2 : decode cX5_kindOf 2 = .ok (.aload_n 0, 1) := by decide +kernel
theorem dX5_kindOf_3 : decode cX5_kindOf 3 = .ok (.iload_n 1, 1) := by decide +kernel
theorem dX5_kindOf_4 : decode cX5_kindOf 4 = .ok (.aload_n 0, 1) := by decide +kernel
theorem dX5_kindOf_5 : decode cX5_kindOf 5 = .ok (.iload_n 1, 1) := by decide +kernel
theorem dX5_kindOf_6 : decode cX5_kindOf 6 = .ok (.iload_n 3, 1) := by decide +kernel
theorem dX5_kindOf_7 : decode cX5_kindOf 7 = .ok (.invokevirtual 141, 3) := by decide +kernel
theorem dX5_kindOf_10 : decode cX5_kindOf 10 = .ok (.invokevirtual 144, 3) := by decide +kernel
theorem dX5_kindOf_13 : decode cX5_kindOf 13 = .ok (.imul, 1) := by decide +kernel
theorem dX5_kindOf_14 : decode cX5_kindOf 14 = .ok (.aload_n 0, 1) := by decide +kernel
theorem dX5_kindOf_15 : decode cX5_kindOf 15 = .ok (.iload_n 2, 1) := by decide +kernel
theorem dX5_kindOf_16 : decode cX5_kindOf 16 = .ok (.aload_n 0, 1) := by decide +kernel
theorem dX5_kindOf_17 : decode cX5_kindOf 17 = .ok (.iload_n 2, 1) := by decide +kernel
theorem dX5_kindOf_18 : decode cX5_kindOf 18 = .ok (.iload_n 3, 1) := by decide +kernel
theorem dX5_kindOf_19 : decode cX5_kindOf 19 = .ok (.invokevirtual 141, 3) := by decide +kernel
theorem dX5_kindOf_22 : decode cX5_kindOf 22 = .ok (.invokevirtual 144, 3) := by decide +kernel
theorem dX5_kindOf_25 : decode cX5_kindOf 25 = .ok (.iadd, 1) := by decide +kernel
theorem dX5_kindOf_26 : decode cX5_kindOf 26 = .ok (.ireturn, 1) := by decide +kernel
theorem dX5_cellArea_0 : decode cX5_cellArea 0 = .ok (.aload_n 0, 1) := by decide +kernel
theorem dX5_cellArea_1 : decode cX5_cellArea 1 = .ok (.iload_n 1, 1) := by decide +kernel
theorem dX5_cellArea_2 : decode cX5_cellArea 2 = .ok (.aload_n 0, 1) := by decide +kernel
theorem dX5_cellArea_3 : decode cX5_cellArea 3 = .ok (.iload_n 1, 1) := by decide +kernel
theorem dX5_cellArea_4 : decode cX5_cellArea 4 = .ok (.iload_n 3, 1) := by decide +kernel
theorem dX5_cellArea_5 : decode cX5_cellArea 5 = .ok (.invokevirtual 141, 3) := by decide +kernel
theorem dX5_cellArea_8 : decode cX5_cellArea 8 = .ok (.iload_n 2, 1) := by decide +kernel
theorem dX5_cellArea_9 : decode cX5_cellArea 9 = .ok (.aload_n 0, 1) := by decide +kernel
theorem dX5_cellArea_10 : decode cX5_cellArea 10 = .ok (.iload_n 2, 1) := by decide +kernel
theorem dX5_cellArea_11 : decode cX5_cellArea 11 = .ok (.iload_n 3, 1) := by decide +kernel
theorem dX5_cellArea_12 : decode cX5_cellArea 12 = .ok (.invokevirtual 141, 3) := by decide +kernel
theorem dX5_cellArea_15 : decode cX5_cellArea 15 = .ok (.invokevirtual 111, 3) := by decide +kernel
theorem dX5_cellArea_18 : decode cX5_cellArea 18 = .ok (.ireturn, 1) := by decide +kernel
theorem dX5_cellMixed_0 : decode cX5_cellMixed 0 = .ok (.aload_n 0, 1) := by decide +kernel
theorem dX5_cellMixed_1 : decode cX5_cellMixed 1 = .ok (.iload_n 1, 1) := by decide +kernel
theorem dX5_cellMixed_2 : decode cX5_cellMixed 2 = .ok (.iload_n 2, 1) := by decide +kernel
theorem dX5_cellMixed_3 : decode cX5_cellMixed 3 = .ok (.iload_n 3, 1) := by decide +kernel
theorem dX5_cellMixed_4 : decode cX5_cellMixed 4 = .ok (.invokevirtual 147, 3) := by decide +kernel
theorem dX5_cellMixed_7 : decode cX5_cellMixed 7 = .ok (.aload_n 0, 1) := by decide +kernel
theorem dX5_cellMixed_8 : decode cX5_cellMixed 8 = .ok (.iload_n 1, 1) := by decide +kernel
theorem dX5_cellMixed_9 : decode cX5_cellMixed 9 = .ok (.aload_n 0, 1) := by decide +kernel
theorem dX5_cellMixed_10 : decode cX5_cellMixed 10 = .ok (.iload_n 1, 1) := by decide +kernel
theorem dX5_cellMixed_11 : decode cX5_cellMixed 11 = .ok (.iload_n 3, 1) := by decide +kernel
theorem dX5_cellMixed_12 : decode cX5_cellMixed 12 = .ok (.invokevirtual 141, 3) := by decide +kernel
theorem dX5_cellMixed_15 : decode cX5_cellMixed 15 = .ok (.invokevirtual 115, 3) := by decide +kernel
theorem dX5_cellMixed_18 : decode cX5_cellMixed 18 = .ok (.isub, 1) := by decide +kernel
theorem dX5_cellMixed_19 : decode cX5_cellMixed 19 = .ok (.aload_n 0, 1) := by decide +kernel
theorem dX5_cellMixed_20 : decode cX5_cellMixed 20 = .ok (.iload_n 2, 1) := by decide +kernel
theorem dX5_cellMixed_21 : decode cX5_cellMixed 21 = .ok (.aload_n 0, 1) := by decide +kernel
theorem dX5_cellMixed_22 : decode cX5_cellMixed 22 = .ok (.iload_n 2, 1) := by decide +kernel
theorem dX5_cellMixed_23 : decode cX5_cellMixed 23 = .ok (.iload_n 3, 1) := by decide +kernel
theorem dX5_cellMixed_24 : decode cX5_cellMixed 24 = .ok (.invokevirtual 141, 3) := by decide +kernel
theorem dX5_cellMixed_27 : decode cX5_cellMixed 27 = .ok (.invokevirtual 115, 3) := by decide +kernel
theorem dX5_cellMixed_30 : decode cX5_cellMixed 30 = .ok (.isub, 1) := by decide +kernel
theorem dX5_cellMixed_31 : decode cX5_cellMixed 31 = .ok (.ireturn, 1) := by decide +kernel
theorem dX5_isKind_0 : decode cX5_isKind 0 = .ok (.iload_n 0, 1) := by decide +kernel
theorem dX5_isKind_1 : decode cX5_isKind 1 = .ok (.iconst 2, 1) := by decide +kernel
theorem dX5_isKind_2 : decode cX5_isKind 2 = .ok (.if_icmp .eq 25, 3) := by decide +kernel
theorem dX5_isKind_5 : decode cX5_isKind 5 = .ok (.iload_n 0, 1) := by decide +kernel
theorem dX5_isKind_6 : decode cX5_isKind 6 = .ok (.bipush 11, 2) := by decide +kernel
theorem dX5_isKind_8 : decode cX5_isKind 8 = .ok (.bipush 12, 2) := by decide +kernel
theorem dX5_isKind_10 : decode cX5_isKind 10 = .ok (.invokestatic 44, 3) := by decide +kernel
theorem dX5_isKind_13 : decode cX5_isKind 13 = .ok (.ifCond .ne 14, 3) := by decide +kernel
theorem dX5_isKind_16 : decode cX5_isKind 16 = .ok (.iload_n 0, 1) := by decide +kernel
theorem dX5_isKind_17 : decode cX5_isKind 17 = .ok (.bipush 20, 2) := by decide +kernel
theorem dX5_isKind_19 : decode cX5_isKind 19 = .ok (.bipush 22, 2) := by decide +kernel
theorem dX5_isKind_21 : decode cX5_isKind 21 = .ok (.invokestatic 44, 3) := by decide +kernel
theorem dX5_isKind_24 : decode cX5_isKind 24 = .ok (.ifCond .eq 7, 3) := by decide +kernel
theorem dX5_isKind_27 : decode cX5_isKind 27 = .ok (.iconst 1, 1) := by decide +kernel
theorem dX5_isKind_28 : decode cX5_isKind 28 = .ok (.goto 4, 3) := by decide +kernel
theorem dX5_isKind_31 : decode cX5_isKind 31 = .ok (.iconst 0, 1) := by decide +kernel
theorem dX5_isKind_32 : decode cX5_isKind 32 = .ok (.ireturn, 1) := by decide +kernel
theorem dX5_cells_0 : decode cX5_cells 0 = .ok (.iload_n 1, 1) := by decide +kernel
theorem dX5_cells_1 : decode cX5_cells 1 = .ok (.invokestatic 52, 3) := by decide +kernel
theorem dX5_cells_4 : decode cX5_cells 4 = .ok (.ifCond .eq 10, 3) := by decide +kernel
theorem dX5_cells_7 : decode cX5_cells 7 = .ok (.iload_n 2, 1) := by decide +kernel
theorem dX5_cells_8 : decode cX5_cells 8 = .ok (.invokestatic 52, 3) := by decide +kernel
theorem dX5_cells_11 : decode cX5_cells 11 = .ok (.ifCond .ne 5, 3) := by decide +kernel
theorem dX5_cells_14 : decode cX5_cells 14 = .ok (.iconst (-1), 1) := by decide +kernel
theorem dX5_cells_15 : decode cX5_cells 15 = .ok (.ireturn, 1) := by decide +kernel
theorem dX5_cells_16 : decode cX5_cells 16 = .ok (.iload_n 3, 1) := by decide +kernel
theorem dX5_cells_17 : decode cX5_cells 17 = .ok (.iconst 0, 1) := by decide +kernel
theorem dX5_cells_18 : decode cX5_cells 18 = .ok (.iconst 2, 1) := by decide +kernel
theorem dX5_cells_19 : decode cX5_cells 19 = .ok (.invokestatic 44, 3) := by decide +kernel
theorem dX5_cells_22 : decode cX5_cells 22 = .ok (.ifCond .ne 22, 3) := by decide +kernel
theorem dX5_cells_25 : decode cX5_cells 25 = .ok (.iload_n 3, 1) := by decide +kernel
theorem dX5_cells_26 : decode cX5_cells 26 = .ok (.bipush 100, 2) := by decide +kernel
theorem dX5_cells_28 : decode cX5_cells 28 = .ok (.if_icmp .le 13, 3) := by decide +kernel
theorem dX5_cells_31 : decode cX5_cells 31 = .ok (.iload_n 3, 1) := by decide +kernel
theorem dX5_cells_32 : decode cX5_cells 32 = .ok (.bipush 100, 2) := by decide +kernel
theorem dX5_cells_34 : decode cX5_cells 34 = .ok (.isub, 1) := by decide +kernel
theorem dX5_cells_35 : decode cX5_cells 35 = .ok (.invokestatic 150, 3) := by decide +kernel
theorem dX5_cells_38 : decode cX5_cells 38 = .ok (.ifCond .ne 6, 3) := by decide +kernel
theorem dX5_cells_41 : decode cX5_cells 41 = .ok (.bipush (-2), 2) := by decide +kernel
theorem dX5_cells_43 : decode cX5_cells 43 = .ok (.ireturn, 1) := by decide +kernel
theorem dX5_cells_44 : decode cX5_cells 44 = .ok (.aload_n 0, 1) := by decide +kernel
theorem dX5_cells_45 : decode cX5_cells 45 = .ok (.iload_n 1, 1) := by decide +kernel
theorem dX5_cells_46 : decode cX5_cells 46 = .ok (.iload_n 2, 1) := by decide +kernel
theorem dX5_cells_47 : decode cX5_cells 47 = .ok (.invokevirtual 153, 3) := by decide +kernel
theorem dX5_cells_50 : decode cX5_cells 50 = .ok (.iconst 0, 1) := by decide +kernel
theorem dX5_cells_51 : decode cX5_cells 51 = .ok (.istore 4, 2) := by decide +kernel
theorem dX5_cells_53 : decode cX5_cells 53 = .ok (.iconst 0, 1) := by decide +kernel
theorem dX5_cells_54 : decode cX5_cells 54 = .ok (.istore 5, 2) := by decide +kernel
theorem dX5_cells_56 : decode cX5_cells 56 = .ok (.iload 5, 2) := by decide +kernel
theorem dX5_cells_58 : decode cX5_cells 58 = .ok (.aload_n 0, 1) := by decide +kernel
theorem dX5_cells_59 : decode cX5_cells 59 = .ok (.getfield 118, 3) := by decide +kernel
theorem dX5_cells_62 : decode cX5_cells 62 = .ok (.if_icmp .ge 74, 3) := by decide +kernel
theorem dX5_cells_65 : decode cX5_cells 65 = .ok (.iload 4, 2) := by decide +kernel
theorem dX5_cells_67 : decode cX5_cells 67 = .ok (.iload_n 3, 1) := by decide +kernel
theorem dX5_cells_68 : decode cX5_cells 68 = .ok (.ifCond .ne 7, 3) := by decide +kernel
theorem dX5_cells_71 : decode cX5_cells 71 = .ok (.iconst 1, 1) := by decide +kernel
theorem dX5_cells_72 : decode cX5_cells 72 = .ok (.goto 55, 3) := by decide +kernel
theorem dX5_cells_75 : decode cX5_cells 75 = .ok (.iload_n 3, 1) := by decide +kernel
theorem dX5_cells_76 : decode cX5_cells 76 = .ok (.iconst 1, 1) := by decide +kernel
theorem dX5_cells_77 : decode cX5_cells 77 = .ok (.if_icmp .ne 14, 3) := by decide +kernel
theorem dX5_cells_80 : decode cX5_cells 80 = .ok (.aload_n 0, 1) := by decide +kernel
theorem dX5_cells_81 : decode cX5_cells 81 = .ok (.iload_n 1, 1) := by decide +kernel
theorem dX5_cells_82 : decode cX5_cells 82 = .ok (.iload_n 2, 1) := by decide +kernel
theorem dX5_cells_83 : decode cX5_cells 83 = .ok (.iload 5, 2) := by decide +kernel
theorem dX5_cells_85 : decode cX5_cells 85 = .ok (.invokevirtual 147, 3) := by decide +kernel
theorem dX5_cells_88 : decode cX5_cells 88 = .ok (.goto 39, 3) := by decide +kernel
theorem dX5_cells_91 : decode cX5_cells 91 = .ok (.iload_n 3, 1) := by decide +kernel
theorem dX5_cells_92 : decode cX5_cells 92 = .ok (.iconst 2, 1) := by decide +kernel
theorem dX5_cells_93 : decode cX5_cells 93 = .ok (.if_icmp .ne 14, 3) := by decide +kernel
theorem dX5_cells_96 : decode cX5_cells 96 = .ok (.aload_n 0, 1) := by decide +kernel
theorem dX5_cells_97 : decode cX5_cells 97 = .ok (.iload_n 1, 1) := by decide +kernel
theorem dX5_cells_98 : decode cX5_cells 98 = .ok (.iload_n 2, 1) := by decide +kernel
theorem dX5_cells_99 : decode cX5_cells 99 = .ok (.iload 5, 2) := by decide +kernel
theorem dX5_cells_101 : decode cX5_cells 101 = .ok (.invokevirtual 156, 3) := by decide +kernel
theorem dX5_cells_104 : decode cX5_cells 104 = .ok (.goto 23, 3) := by decide +kernel
theorem dX5_cells_107 : decode cX5_cells 107 = .ok (.aload_n 0, 1) := by decide +kernel
theorem dX5_cells_108 : decode cX5_cells 108 = .ok (.iload_n 1, 1) := by decide +kernel
theorem dX5_cells_109 : decode cX5_cells 109 = .ok (.iload_n 2, 1) := by decide +kernel
theorem dX5_cells_110 : decode cX5_cells 110 = .ok (.iload 5, 2) := by decide +kernel
theorem dX5_cells_112 : decode cX5_cells 112 = .ok (.invokevirtual 159, 3) := by decide +kernel
theorem dX5_cells_115 : decode cX5_cells 115 = .ok (.iload_n 3, 1) := by decide +kernel
theorem dX5_cells_116 : decode cX5_cells 116 = .ok (.bipush 100, 2) := by decide +kernel
theorem dX5_cells_118 : decode cX5_cells 118 = .ok (.isub, 1) := by decide +kernel
theorem dX5_cells_119 : decode cX5_cells 119 = .ok (.if_icmp .ne 7, 3) := by decide +kernel
theorem dX5_cells_122 : decode cX5_cells 122 = .ok (.iconst 1, 1) := by decide +kernel
theorem dX5_cells_123 : decode cX5_cells 123 = .ok (.goto 4, 3) := by decide +kernel
theorem dX5_cells_126 : decode cX5_cells 126 = .ok (.iconst 0, 1) := by decide +kernel
theorem dX5_cells_127 : decode cX5_cells 127 = .ok (.iadd, 1) := by decide +kernel
theorem dX5_cells_128 : decode cX5_cells 128 = .ok (.istore 4, 2) := by decide +kernel
theorem dX5_cells_130 : decode cX5_cells 130 = .ok (.iinc 5 1, 3) := by decide +kernel
theorem dX5_cells_133 : decode cX5_cells 133 = .ok (.goto (-77), 3) := by decide +kernel
theorem dX5_cells_136 : decode cX5_cells 136 = .ok (.iload 4, 2) := by decide +kernel
theorem dX5_cells_138 : decode cX5_cells 138 = .ok (.ireturn, 1) := by decide +kernel
theorem dX5_cell_0 : decode cX5_cell 0 = .ok (.iload_n 1, 1) := by decide +kernel
theorem dX5_cell_1 : decode cX5_cell 1 = .ok (.invokestatic 52, 3) := by decide +kernel
theorem dX5_cell_4 : decode cX5_cell 4 = .ok (.ifCond .eq 10, 3) := by decide +kernel
theorem dX5_cell_7 : decode cX5_cell 7 = .ok (.iload_n 2, 1) := by decide +kernel
theorem dX5_cell_8 : decode cX5_cell 8 = .ok (.invokestatic 52, 3) := by decide +kernel
theorem dX5_cell_11 : decode cX5_cell 11 = .ok (.ifCond .ne 5, 3) := by decide +kernel
theorem dX5_cell_14 : decode cX5_cell 14 = .ok (.iconst (-1), 1) := by decide +kernel
theorem dX5_cell_15 : decode cX5_cell 15 = .ok (.ireturn, 1) := by decide +kernel
theorem dX5_cell_16 : decode cX5_cell 16 = .ok (.iload 4, 2) := by decide +kernel
theorem dX5_cell_18 : decode cX5_cell 18 = .ok (.iconst 0, 1) := by decide +kernel
theorem dX5_cell_19 : decode cX5_cell 19 = .ok (.iconst 4, 1) := by decide +kernel
theorem dX5_cell_20 : decode cX5_cell 20 = .ok (.invokestatic 44, 3) := by decide +kernel
theorem dX5_cell_23 : decode cX5_cell 23 = .ok (.ifCond .ne 6, 3) := by decide +kernel
theorem dX5_cell_26 : decode cX5_cell 26 = .ok (.bipush (-2), 2) := by decide +kernel
theorem dX5_cell_28 : decode cX5_cell 28 = .ok (.ireturn, 1) := by decide +kernel
theorem dX5_cell_29 : decode cX5_cell 29 = .ok (.aload_n 0, 1) := by decide +kernel
theorem dX5_cell_30 : decode cX5_cell 30 = .ok (.iload_n 1, 1) := by decide +kernel
theorem dX5_cell_31 : decode cX5_cell 31 = .ok (.iload_n 2, 1) := by decide +kernel
theorem dX5_cell_32 : decode cX5_cell 32 = .ok (.invokevirtual 153, 3) := by decide +kernel
theorem dX5_cell_35 : decode cX5_cell 35 = .ok (.iload_n 3, 1) := by decide +kernel
theorem dX5_cell_36 : decode cX5_cell 36 = .ok (.iconst 0, 1) := by decide +kernel
theorem dX5_cell_37 : decode cX5_cell 37 = .ok (.aload_n 0, 1) := by decide +kernel
theorem dX5_cell_38 : decode cX5_cell 38 = .ok (.getfield 118, 3) := by decide +kernel
theorem dX5_cell_41 : decode cX5_cell 41 = .ok (.iconst 1, 1) := by decide +kernel
theorem dX5_cell_42 : decode cX5_cell 42 = .ok (.isub, 1) := by decide +kernel
theorem dX5_cell_43 : decode cX5_cell 43 = .ok (.invokestatic 44, 3) := by decide +kernel
theorem dX5_cell_46 : decode cX5_cell 46 = .ok (.ifCond .ne 6, 3) := by decide +kernel
theorem dX5_cell_49 : decode cX5_cell 49 = .ok (.bipush (-6), 2) := by decide +kernel
theorem dX5_cell_51 : decode cX5_cell 51 = .ok (.ireturn, 1) := by decide +kernel
theorem dX5_cell_52 : decode cX5_cell 52 = .ok (.iload 4, 2) := by decide +kernel
theorem dX5_cell_54 : decode cX5_cell 54 = .ok (.tableswitch 61 0 3 #[30, 38, 46, 54], 30) := by decide +kernel
theorem dX5_cell_84 : decode cX5_cell 84 = .ok (.aload_n 0, 1) := by decide +kernel
theorem dX5_cell_85 : decode cX5_cell 85 = .ok (.iload_n 1, 1) := by decide +kernel
theorem dX5_cell_86 : decode cX5_cell 86 = .ok (.iload_n 2, 1) := by decide +kernel
theorem dX5_cell_87 : decode cX5_cell 87 = .ok (.iload_n 3, 1) := by decide +kernel
theorem dX5_cell_88 : decode cX5_cell 88 = .ok (.invokevirtual 159, 3) := by decide +kernel
theorem dX5_cell_91 : decode cX5_cell 91 = .ok (.ireturn, 1) := by decide +kernel
theorem dX5_cell_92 : decode cX5_cell 92 = .ok (.aload_n 0, 1) := by decide +kernel
theorem dX5_cell_93 : decode cX5_cell 93 = .ok (.iload_n 1, 1) := by decide +kernel
theorem dX5_cell_94 : decode cX5_cell 94 = .ok (.iload_n 2, 1) := by decide +kernel
theorem dX5_cell_95 : decode cX5_cell 95 = .ok (.iload_n 3, 1) := by decide +kernel
theorem dX5_cell_96 : decode cX5_cell 96 = .ok (.invokevirtual 147, 3) := by decide +kernel
theorem dX5_cell_99 : decode cX5_cell 99 = .ok (.ireturn, 1) := by decide +kernel
theorem dX5_cell_100 : decode cX5_cell 100 = .ok (.aload_n 0, 1) := by decide +kernel
theorem dX5_cell_101 : decode cX5_cell 101 = .ok (.iload_n 1, 1) := by decide +kernel
theorem dX5_cell_102 : decode cX5_cell 102 = .ok (.iload_n 2, 1) := by decide +kernel
theorem dX5_cell_103 : decode cX5_cell 103 = .ok (.iload_n 3, 1) := by decide +kernel
theorem dX5_cell_104 : decode cX5_cell 104 = .ok (.invokevirtual 156, 3) := by decide +kernel
theorem dX5_cell_107 : decode cX5_cell 107 = .ok (.ireturn, 1) := by decide +kernel
theorem dX5_cell_108 : decode cX5_cell 108 = .ok (.aload_n 0, 1) := by decide +kernel
theorem dX5_cell_109 : decode cX5_cell 109 = .ok (.iload_n 1, 1) := by decide +kernel
theorem dX5_cell_110 : decode cX5_cell 110 = .ok (.iload_n 3, 1) := by decide +kernel
theorem dX5_cell_111 : decode cX5_cell 111 = .ok (.invokevirtual 141, 3) := by decide +kernel
theorem dX5_cell_114 : decode cX5_cell 114 = .ok (.ireturn, 1) := by decide +kernel
theorem dX5_cell_115 : decode cX5_cell 115 = .ok (.aload_n 0, 1) := by decide +kernel
theorem dX5_cell_116 : decode cX5_cell 116 = .ok (.iload_n 2, 1) := by decide +kernel
theorem dX5_cell_117 : decode cX5_cell 117 = .ok (.iload_n 3, 1) := by decide +kernel
theorem dX5_cell_118 : decode cX5_cell 118 = .ok (.invokevirtual 141, 3) := by decide +kernel
theorem dX5_cell_121 : decode cX5_cell 121 = .ok (.ireturn, 1) := by decide +kernel
theorem dX5_common_0 : decode cX5_common 0 = .ok (.iload_n 0, 1) := by decide +kernel
theorem dX5_common_1 : decode cX5_common 1 = .ok (.ifCond .ge 8, 3) := by decide +kernel
theorem dX5_common_4 : decode cX5_common 4 = .ok (.iload_n 0, 1) := by decide +kernel
theorem dX5_common_5 : decode cX5_common 5 = .ok (.ineg, 1) := by decide +kernel
theorem dX5_common_6 : decode cX5_common 6 = .ok (.goto 4, 3) := by decide +kernel
theorem dX5_common_9 : decode cX5_common 9 = .ok (.iload_n 0, 1) := by decide +kernel
theorem dX5_common_10 : decode cX5_common 10 = .ok (.istore_n 2, 1) := by decide +kernel
theorem dX5_common_11 : decode cX5_common 11 = .ok (.iload_n 1, 1) := by decide +kernel
theorem dX5_common_12 : decode cX5_common 12 = .ok (.istore_n 3, 1) := by decide +kernel
theorem dX5_common_13 : decode cX5_common 13 = .ok (.iconst 0, 1) := by decide +kernel
theorem dX5_common_14 : decode cX5_common 14 = .ok (.istore 4, 2) := by decide +kernel
theorem dX5_common_16 : decode cX5_common 16 = .ok (.iload 4, 2) := by decide +kernel
theorem dX5_common_18 : decode cX5_common 18 = .ok (.bipush 100, 2) := by decide +kernel
theorem dX5_common_20 : decode cX5_common 20 = .ok (.if_icmp .ge 23, 3) := by decide +kernel
theorem dX5_common_23 : decode cX5_common 23 = .ok (.iload_n 3, 1) := by decide +kernel
theorem dX5_common_24 : decode cX5_common 24 = .ok (.ifCond .eq 19, 3) := by decide +kernel
theorem dX5_common_27 : decode cX5_common 27 = .ok (.iload_n 2, 1) := by decide +kernel
theorem dX5_common_28 : decode cX5_common 28 = .ok (.iload_n 3, 1) := by decide +kernel
theorem dX5_common_29 : decode cX5_common 29 = .ok (.irem, 1) := by decide +kernel
theorem dX5_common_30 : decode cX5_common 30 = .ok (.istore 5, 2) := by decide +kernel
theorem dX5_common_32 : decode cX5_common 32 = .ok (.iload_n 3, 1) := by decide +kernel
theorem dX5_common_33 : decode cX5_common 33 = .ok (.istore_n 2, 1) := by decide +kernel
theorem dX5_common_34 : decode cX5_common 34 = .ok (.iload 5, 2) := by decide +kernel
theorem dX5_common_36 : decode cX5_common 36 = .ok (.istore_n 3, 1) := by decide +kernel
theorem dX5_common_37 : decode cX5_common 37 = .ok (.iinc 4 1, 3) := by decide +kernel
theorem dX5_common_40 : decode cX5_common 40 = .ok (.goto (-24), 3) := by decide +kernel
theorem dX5_common_43 : decode cX5_common 43 = .ok (.iload_n 2, 1) := by decide +kernel
theorem dX5_common_44 : decode cX5_common 44 = .ok (.ireturn, 1) := by decide +kernel
theorem dX5_slope_0 : decode cX5_slope 0 = .ok (.iload_n 1, 1) := by decide +kernel
theorem dX5_slope_1 : decode cX5_slope 1 = .ok (.invokestatic 52, 3) := by decide +kernel
theorem dX5_slope_4 : decode cX5_slope 4 = .ok (.ifCond .eq 10, 3) := by decide +kernel
theorem dX5_slope_7 : decode cX5_slope 7 = .ok (.iload_n 2, 1) := by decide +kernel
theorem dX5_slope_8 : decode cX5_slope 8 = .ok (.invokestatic 52, 3) := by decide +kernel
theorem dX5_slope_11 : decode cX5_slope 11 = .ok (.ifCond .ne 5, 3) := by decide +kernel
theorem dX5_slope_14 : decode cX5_slope 14 = .ok (.iconst (-1), 1) := by decide +kernel
theorem dX5_slope_15 : decode cX5_slope 15 = .ok (.ireturn, 1) := by decide +kernel
theorem dX5_slope_16 : decode cX5_slope 16 = .ok (.iload 4, 2) := by decide +kernel
theorem dX5_slope_18 : decode cX5_slope 18 = .ok (.iconst 0, 1) := by decide +kernel
theorem dX5_slope_19 : decode cX5_slope 19 = .ok (.iconst 3, 1) := by decide +kernel
theorem dX5_slope_20 : decode cX5_slope 20 = .ok (.invokestatic 44, 3) := by decide +kernel
theorem dX5_slope_23 : decode cX5_slope 23 = .ok (.ifCond .ne 6, 3) := by decide +kernel
theorem dX5_slope_26 : decode cX5_slope 26 = .ok (.bipush (-2), 2) := by decide +kernel
theorem dX5_slope_28 : decode cX5_slope 28 = .ok (.ireturn, 1) := by decide +kernel
theorem dX5_slope_29 : decode cX5_slope 29 = .ok (.aload_n 0, 1) := by decide +kernel
theorem dX5_slope_30 : decode cX5_slope 30 = .ok (.iload_n 1, 1) := by decide +kernel
theorem dX5_slope_31 : decode cX5_slope 31 = .ok (.iload_n 2, 1) := by decide +kernel
theorem dX5_slope_32 : decode cX5_slope 32 = .ok (.invokevirtual 153, 3) := by decide +kernel
theorem dX5_slope_35 : decode cX5_slope 35 = .ok (.iload_n 3, 1) := by decide +kernel
theorem dX5_slope_36 : decode cX5_slope 36 = .ok (.iconst 0, 1) := by decide +kernel
theorem dX5_slope_37 : decode cX5_slope 37 = .ok (.aload_n 0, 1) := by decide +kernel
theorem dX5_slope_38 : decode cX5_slope 38 = .ok (.getfield 118, 3) := by decide +kernel
theorem dX5_slope_41 : decode cX5_slope 41 = .ok (.iconst 1, 1) := by decide +kernel
theorem dX5_slope_42 : decode cX5_slope 42 = .ok (.isub, 1) := by decide +kernel
theorem dX5_slope_43 : decode cX5_slope 43 = .ok (.invokestatic 44, 3) := by decide +kernel
theorem dX5_slope_46 : decode cX5_slope 46 = .ok (.ifCond .ne 6, 3) := by decide +kernel
theorem dX5_slope_49 : decode cX5_slope 49 = .ok (.bipush (-6), 2) := by decide +kernel
theorem dX5_slope_51 : decode cX5_slope 51 = .ok (.ireturn, 1) := by decide +kernel
theorem dX5_slope_52 : decode cX5_slope 52 = .ok (.iload 4, 2) := by decide +kernel
theorem dX5_slope_54 : decode cX5_slope 54 = .ok (.iconst 2, 1) := by decide +kernel
theorem dX5_slope_55 : decode cX5_slope 55 = .ok (.if_icmp .ge 12, 3) := by decide +kernel
theorem dX5_slope_58 : decode cX5_slope 58 = .ok (.aload_n 0, 1) := by decide +kernel
theorem dX5_slope_59 : decode cX5_slope 59 = .ok (.getfield 29, 3) := by decide +kernel
theorem dX5_slope_62 : decode cX5_slope 62 = .ok (.iload_n 3, 1) := by decide +kernel
theorem dX5_slope_63 : decode cX5_slope 63 = .ok (.iaload, 1) := by decide +kernel
theorem dX5_slope_64 : decode cX5_slope 64 = .ok (.goto 9, 3) := by decide +kernel
theorem dX5_slope_67 : decode cX5_slope 67 = .ok (.aload_n 0, 1) := by decide +kernel
theorem dX5_slope_68 : decode cX5_slope 68 = .ok (.getfield 32, 3) := by decide +kernel
theorem dX5_slope_71 : decode cX5_slope 71 = .ok (.iload_n 3, 1) := by decide +kernel
theorem dX5_slope_72 : decode cX5_slope 72 = .ok (.iaload, 1) := by decide +kernel
theorem dX5_slope_73 : decode cX5_slope 73 = .ok (.istore 5, 2) := by decide +kernel
theorem dX5_slope_75 : decode cX5_slope 75 = .ok (.iload 5, 2) := by decide +kernel
theorem dX5_slope_77 : decode cX5_slope 77 = .ok (.aload_n 0, 1) := by decide +kernel
theorem dX5_slope_78 : decode cX5_slope 78 = .ok (.getfield 35, 3) := by decide +kernel
theorem dX5_slope_81 : decode cX5_slope 81 = .ok (.iload_n 3, 1) := by decide +kernel
theorem dX5_slope_82 : decode cX5_slope 82 = .ok (.iaload, 1) := by decide +kernel
theorem dX5_slope_83 : decode cX5_slope 83 = .ok (.invokestatic 162, 3) := by decide +kernel
theorem dX5_slope_86 : decode cX5_slope 86 = .ok (.istore 6, 2) := by decide +kernel
theorem dX5_slope_88 : decode cX5_slope 88 = .ok (.iload 4, 2) := by decide +kernel
theorem dX5_slope_90 : decode cX5_slope 90 = .ok (.iconst 2, 1) := by decide +kernel
theorem dX5_slope_91 : decode cX5_slope 91 = .ok (.irem, 1) := by decide +kernel
theorem dX5_slope_92 : decode cX5_slope 92 = .ok (.ifCond .ne 14, 3) := by decide +kernel
theorem dX5_slope_95 : decode cX5_slope 95 = .ok (.iload 5, 2) := by decide +kernel
theorem dX5_slope_97 : decode cX5_slope 97 = .ok (.iload 6, 2) := by decide +kernel
theorem dX5_slope_99 : decode cX5_slope 99 = .ok (.idiv, 1) := by decide +kernel
theorem dX5_slope_100 : decode cX5_slope 100 = .ok (.ldc 165, 2) := by decide +kernel
theorem dX5_slope_102 : decode cX5_slope 102 = .ok (.iadd, 1) := by decide +kernel
theorem dX5_slope_103 : decode cX5_slope 103 = .ok (.goto 12, 3) := by decide +kernel
theorem dX5_slope_106 : decode cX5_slope 106 = .ok (.aload_n 0, 1) := by decide +kernel
theorem dX5_slope_107 : decode cX5_slope 107 = .ok (.getfield 35, 3) := by decide +kernel
theorem dX5_slope_110 : decode cX5_slope 110 = .ok (.iload_n 3, 1) := by decide +kernel
theorem dX5_slope_111 : decode cX5_slope 111 = .ok (.iaload, 1) := by decide +kernel
theorem dX5_slope_112 : decode cX5_slope 112 = .ok (.iload 6, 2) := by decide +kernel
theorem dX5_slope_114 : decode cX5_slope 114 = .ok (.idiv, 1) := by decide +kernel
theorem dX5_slope_115 : decode cX5_slope 115 = .ok (.ireturn, 1) := by decide +kernel
theorem dX5_low_0 : decode cX5_low 0 = .ok (.iload_n 1, 1) := by decide +kernel
theorem dX5_low_1 : decode cX5_low 1 = .ok (.invokestatic 52, 3) := by decide +kernel
theorem dX5_low_4 : decode cX5_low 4 = .ok (.ifCond .ne 5, 3) := by decide +kernel
theorem dX5_low_7 : decode cX5_low 7 = .ok (.iconst (-1), 1) := by decide +kernel
theorem dX5_low_8 : decode cX5_low 8 = .ok (.ireturn, 1) := by decide +kernel
theorem dX5_low_9 : decode cX5_low 9 = .ok (.iload_n 2, 1) := by decide +kernel
theorem dX5_low_10 : decode cX5_low 10 = .ok (.sipush (-1000), 3) := by decide +kernel
theorem dX5_low_13 : decode cX5_low 13 = .ok (.sipush 1000, 3) := by decide +kernel
theorem dX5_low_16 : decode cX5_low 16 = .ok (.invokestatic 44, 3) := by decide +kernel
theorem dX5_low_19 : decode cX5_low 19 = .ok (.ifCond .eq 16, 3) := by decide +kernel
theorem dX5_low_22 : decode cX5_low 22 = .ok (.iload_n 3, 1) := by decide +kernel
theorem dX5_low_23 : decode cX5_low 23 = .ok (.sipush (-1000), 3) := by decide +kernel
theorem dX5_low_26 : decode cX5_low 26 = .ok (.sipush 1000, 3) := by decide +kernel
theorem dX5_low_29 : decode cX5_low 29 = .ok (.invokestatic 44, 3) := by decide +kernel
theorem dX5_low_32 : decode cX5_low 32 = .ok (.ifCond .ne 6, 3) := by decide +kernel
theorem dX5_low_35 : decode cX5_low 35 = .ok (.bipush (-2), 2) := by decide +kernel
theorem dX5_low_37 : decode cX5_low 37 = .ok (.ireturn, 1) := by decide +kernel
theorem dX5_low_38 : decode cX5_low 38 = .ok (.aload_n 0, 1) := by decide +kernel
theorem dX5_low_39 : decode cX5_low 39 = .ok (.iload_n 1, 1) := by decide +kernel
theorem dX5_low_40 : decode cX5_low 40 = .ok (.iload_n 2, 1) := by decide +kernel
theorem dX5_low_41 : decode cX5_low 41 = .ok (.iload_n 3, 1) := by decide +kernel
theorem dX5_low_42 : decode cX5_low 42 = .ok (.iconst 1, 1) := by decide +kernel
theorem dX5_low_43 : decode cX5_low 43 = .ok (.invokevirtual 127, 3) := by decide +kernel
theorem dX5_low_46 : decode cX5_low 46 = .ok (.ireturn, 1) := by decide +kernel
theorem dX5_fan_0 : decode cX5_fan 0 = .ok (.iload_n 1, 1) := by decide +kernel
theorem dX5_fan_1 : decode cX5_fan 1 = .ok (.invokestatic 52, 3) := by decide +kernel
theorem dX5_fan_4 : decode cX5_fan 4 = .ok (.ifCond .ne 5, 3) := by decide +kernel
theorem dX5_fan_7 : decode cX5_fan 7 = .ok (.iconst (-1), 1) := by decide +kernel
theorem dX5_fan_8 : decode cX5_fan 8 = .ok (.ireturn, 1) := by decide +kernel
theorem dX5_fan_9 : decode cX5_fan 9 = .ok (.iload_n 2, 1) := by decide +kernel
theorem dX5_fan_10 : decode cX5_fan 10 = .ok (.iconst 0, 1) := by decide +kernel
theorem dX5_fan_11 : decode cX5_fan 11 = .ok (.iconst 2, 1) := by decide +kernel
theorem dX5_fan_12 : decode cX5_fan 12 = .ok (.invokestatic 44, 3) := by decide +kernel
theorem dX5_fan_15 : decode cX5_fan 15 = .ok (.ifCond .ne 6, 3) := by decide +kernel
theorem dX5_fan_18 : decode cX5_fan 18 = .ok (.bipush (-2), 2) := by decide +kernel
theorem dX5_fan_20 : decode cX5_fan 20 = .ok (.ireturn, 1) := by decide +kernel
theorem dX5_fan_21 : decode cX5_fan 21 = .ok (.aload_n 0, 1) := by decide +kernel
theorem dX5_fan_22 : decode cX5_fan 22 = .ok (.iconst 0, 1) := by decide +kernel
theorem dX5_fan_23 : decode cX5_fan 23 = .ok (.putfield 63, 3) := by decide +kernel
theorem dX5_fan_26 : decode cX5_fan 26 = .ok (.iconst 0, 1) := by decide +kernel
theorem dX5_fan_27 : decode cX5_fan 27 = .ok (.istore_n 3, 1) := by decide +kernel
theorem dX5_fan_28 : decode cX5_fan 28 = .ok (.iload_n 3, 1) := by decide +kernel
theorem dX5_fan_29 : decode cX5_fan 29 = .ok (.iconst 1, 1) := by decide +kernel
theorem dX5_fan_30 : decode cX5_fan 30 = .ok (.aload_n 0, 1) := by decide +kernel
theorem dX5_fan_31 : decode cX5_fan 31 = .ok (.iload_n 1, 1) := by decide +kernel
theorem dX5_fan_32 : decode cX5_fan 32 = .ok (.invokevirtual 56, 3) := by decide +kernel
theorem dX5_fan_35 : decode cX5_fan 35 = .ok (.ishl, 1) := by decide +kernel
theorem dX5_fan_36 : decode cX5_fan 36 = .ok (.if_icmp .ge 94, 3) := by decide +kernel
theorem dX5_fan_39 : decode cX5_fan 39 = .ok (.iconst 0, 1) := by decide +kernel
theorem dX5_fan_40 : decode cX5_fan 40 = .ok (.istore 4, 2) := by decide +kernel
theorem dX5_fan_42 : decode cX5_fan 42 = .ok (.iconst 0, 1) := by decide +kernel
theorem dX5_fan_43 : decode cX5_fan 43 = .ok (.istore 5, 2) := by decide +kernel
theorem dX5_fan_45 : decode cX5_fan 45 = .ok (.iconst 0, 1) := by decide +kernel
theorem dX5_fan_46 : decode cX5_fan 46 = .ok (.istore 6, 2) := by decide +kernel
theorem dX5_fan_48 : decode cX5_fan 48 = .ok (.iload 6, 2) := by decide +kernel
theorem dX5_fan_50 : decode cX5_fan 50 = .ok (.aload_n 0, 1) := by decide +kernel
theorem dX5_fan_51 : decode cX5_fan 51 = .ok (.iload_n 1, 1) := by decide +kernel
theorem dX5_fan_52 : decode cX5_fan 52 = .ok (.invokevirtual 56, 3) := by decide +kernel
theorem dX5_fan_55 : decode cX5_fan 55 = .ok (.if_icmp .ge 61, 3) := by decide +kernel
theorem dX5_fan_58 : decode cX5_fan 58 = .ok (.iload 4, 2) := by decide +kernel
theorem dX5_fan_60 : decode cX5_fan 60 = .ok (.iload_n 3, 1) := by decide +kernel
theorem dX5_fan_61 : decode cX5_fan 61 = .ok (.iload 6, 2) := by decide +kernel
theorem dX5_fan_63 : decode cX5_fan 63 = .ok (.invokestatic 80, 3) := by decide +kernel
theorem dX5_fan_66 : decode cX5_fan 66 = .ok (.ifCond .eq 14, 3) := by decide +kernel
theorem dX5_fan_69 : decode cX5_fan 69 = .ok (.aload_n 0, 1) := by decide +kernel
theorem dX5_fan_70 : decode cX5_fan 70 = .ok (.iload_n 1, 1) := by decide +kernel
theorem dX5_fan_71 : decode cX5_fan 71 = .ok (.iload 6, 2) := by decide +kernel
theorem dX5_fan_73 : decode cX5_fan 73 = .ok (.iconst 0, 1) := by decide +kernel
theorem dX5_fan_74 : decode cX5_fan 74 = .ok (.invokevirtual 60, 3) := by decide +kernel
theorem dX5_fan_77 : decode cX5_fan 77 = .ok (.goto 4, 3) := by decide +kernel
theorem dX5_fan_80 : decode cX5_fan 80 = .ok (.iconst 0, 1) := by decide +kernel
theorem dX5_fan_81 : decode cX5_fan 81 = .ok (.iadd, 1) := by decide +kernel
theorem dX5_fan_82 : decode cX5_fan 82 = .ok (.istore 4, 2) := by decide +kernel
theorem dX5_fan_84 : decode cX5_fan 84 = .ok (.iload 5, 2) := by decide +kernel
theorem dX5_fan_86 : decode cX5_fan 86 = .ok (.iload_n 3, 1) := by decide +kernel
theorem dX5_fan_87 : decode cX5_fan 87 = .ok (.iload 6, 2) := by decide +kernel
theorem dX5_fan_89 : decode cX5_fan 89 = .ok (.invokestatic 80, 3) := by decide +kernel
theorem dX5_fan_92 : decode cX5_fan 92 = .ok (.ifCond .eq 14, 3) := by decide +kernel
theorem dX5_fan_95 : decode cX5_fan 95 = .ok (.aload_n 0, 1) := by decide +kernel
theorem dX5_fan_96 : decode cX5_fan 96 = .ok (.iload_n 1, 1) := by decide +kernel
theorem dX5_fan_97 : decode cX5_fan 97 = .ok (.iload 6, 2) := by decide +kernel
theorem dX5_fan_99 : decode cX5_fan 99 = .ok (.iconst 1, 1) := by decide +kernel
theorem dX5_fan_100 : decode cX5_fan 100 = .ok (.invokevirtual 60, 3) := by decide +kernel
theorem dX5_fan_103 : decode cX5_fan 103 = .ok (.goto 4, 3) := by decide +kernel
theorem dX5_fan_106 : decode cX5_fan 106 = .ok (.iconst 0, 1) := by decide +kernel
theorem dX5_fan_107 : decode cX5_fan 107 = .ok (.iadd, 1) := by decide +kernel
theorem dX5_fan_108 : decode cX5_fan 108 = .ok (.istore 5, 2) := by decide +kernel
theorem dX5_fan_110 : decode cX5_fan 110 = .ok (.iinc 6 1, 3) := by decide +kernel
theorem dX5_fan_113 : decode cX5_fan 113 = .ok (.goto (-65), 3) := by decide +kernel
theorem dX5_fan_116 : decode cX5_fan 116 = .ok (.aload_n 0, 1) := by decide +kernel
theorem dX5_fan_117 : decode cX5_fan 117 = .ok (.iload 4, 2) := by decide +kernel
theorem dX5_fan_119 : decode cX5_fan 119 = .ok (.iload 5, 2) := by decide +kernel
theorem dX5_fan_121 : decode cX5_fan 121 = .ok (.invokevirtual 84, 3) := by decide +kernel
theorem dX5_fan_124 : decode cX5_fan 124 = .ok (.iinc 3 1, 3) := by decide +kernel
theorem dX5_fan_127 : decode cX5_fan 127 = .ok (.goto (-99), 3) := by decide +kernel
theorem dX5_fan_130 : decode cX5_fan 130 = .ok (.aload_n 0, 1) := by decide +kernel
theorem dX5_fan_131 : decode cX5_fan 131 = .ok (.invokevirtual 88, 3) := by decide +kernel
theorem dX5_fan_134 : decode cX5_fan 134 = .ok (.iload_n 2, 1) := by decide +kernel
theorem dX5_fan_135 : decode cX5_fan 135 = .ok (.ifCond .ne 10, 3) := by decide +kernel
theorem dX5_fan_138 : decode cX5_fan 138 = .ok (.aload_n 0, 1) := by decide +kernel
theorem dX5_fan_139 : decode cX5_fan 139 = .ok (.invokevirtual 97, 3) := by decide +kernel
theorem dX5_fan_142 : decode cX5_fan 142 = .ok (.goto 19, 3) := by decide +kernel
theorem dX5_fan_145 : decode cX5_fan 145 = .ok (.iload_n 2, 1) := by decide +kernel
theorem dX5_fan_146 : decode cX5_fan 146 = .ok (.iconst 1, 1) := by decide +kernel
theorem dX5_fan_147 : decode cX5_fan 147 = .ok (.if_icmp .ne 10, 3) := by decide +kernel
theorem dX5_fan_150 : decode cX5_fan 150 = .ok (.aload_n 0, 1) := by decide +kernel
theorem dX5_fan_151 : decode cX5_fan 151 = .ok (.getfield 74, 3) := by decide +kernel
theorem dX5_fan_154 : decode cX5_fan 154 = .ok (.goto 7, 3) := by decide +kernel
theorem dX5_fan_157 : decode cX5_fan 157 = .ok (.aload_n 0, 1) := by decide +kernel
theorem dX5_fan_158 : decode cX5_fan 158 = .ok (.getfield 63, 3) := by decide +kernel
theorem dX5_fan_161 : decode cX5_fan 161 = .ok (.ireturn, 1) := by decide +kernel
theorem dX5_power_0 : decode cX5_power 0 = .ok (.iconst 1, 1) := by decide +kernel
theorem dX5_power_1 : decode cX5_power 1 = .ok (.istore_n 3, 1) := by decide +kernel
theorem dX5_power_2 : decode cX5_power 2 = .ok (.iconst 0, 1) := by decide +kernel
theorem dX5_power_3 : decode cX5_power 3 = .ok (.istore 4, 2) := by decide +kernel
theorem dX5_power_5 : decode cX5_power 5 = .ok (.iload 4, 2) := by decide +kernel
theorem dX5_power_7 : decode cX5_power 7 = .ok (.iload_n 1, 1) := by decide +kernel
theorem dX5_power_8 : decode cX5_power 8 = .ok (.if_icmp .ge 15, 3) := by decide +kernel
theorem dX5_power_11 : decode cX5_power 11 = .ok (.iload_n 3, 1) := by decide +kernel
theorem dX5_power_12 : decode cX5_power 12 = .ok (.iload_n 0, 1) := by decide +kernel
theorem dX5_power_13 : decode cX5_power 13 = .ok (.imul, 1) := by decide +kernel
theorem dX5_power_14 : decode cX5_power 14 = .ok (.iload_n 2, 1) := by decide +kernel
theorem dX5_power_15 : decode cX5_power 15 = .ok (.irem, 1) := by decide +kernel
theorem dX5_power_16 : decode cX5_power 16 = .ok (.istore_n 3, 1) := by decide +kernel
theorem dX5_power_17 : decode cX5_power 17 = .ok (.iinc 4 1, 3) := by decide +kernel
theorem dX5_power_20 : decode cX5_power 20 = .ok (.goto (-15), 3) := by decide +kernel
theorem dX5_power_23 : decode cX5_power 23 = .ok (.iload_n 3, 1) := by decide +kernel
theorem dX5_power_24 : decode cX5_power 24 = .ok (.iload_n 2, 1) := by decide +kernel
theorem dX5_power_25 : decode cX5_power 25 = .ok (.irem, 1) := by decide +kernel
theorem dX5_power_26 : decode cX5_power 26 = .ok (.ireturn, 1) := by decide +kernel
theorem dX5_holds_0 : decode cX5_holds 0 = .ok (.iconst 0, 1) := by decide +kernel
theorem dX5_holds_1 : decode cX5_holds 1 = .ok (.istore 5, 2) := by decide +kernel
theorem dX5_holds_3 : decode cX5_holds 3 = .ok (.iconst 0, 1) := by decide +kernel
theorem dX5_holds_4 : decode cX5_holds 4 = .ok (.istore 6, 2) := by decide +kernel
theorem dX5_holds_6 : decode cX5_holds 6 = .ok (.iload 6, 2) := by decide +kernel
theorem dX5_holds_8 : decode cX5_holds 8 = .ok (.aload_n 0, 1) := by decide +kernel
theorem dX5_holds_9 : decode cX5_holds 9 = .ok (.iload_n 1, 1) := by decide +kernel
theorem dX5_holds_10 : decode cX5_holds 10 = .ok (.invokevirtual 56, 3) := by decide +kernel
theorem dX5_holds_13 : decode cX5_holds 13 = .ok (.if_icmp .ge 52, 3) := by decide +kernel
theorem dX5_holds_16 : decode cX5_holds 16 = .ok (.iload 5, 2) := by decide +kernel
theorem dX5_holds_18 : decode cX5_holds 18 = .ok (.aload_n 0, 1) := by decide +kernel
theorem dX5_holds_19 : decode cX5_holds 19 = .ok (.iload_n 1, 1) := by decide +kernel
theorem dX5_holds_20 : decode cX5_holds 20 = .ok (.iload 6, 2) := by decide +kernel
theorem dX5_holds_22 : decode cX5_holds 22 = .ok (.iconst 2, 1) := by decide +kernel
theorem dX5_holds_23 : decode cX5_holds 23 = .ok (.invokevirtual 60, 3) := by decide +kernel
theorem dX5_holds_26 : decode cX5_holds 26 = .ok (.iload_n 2, 1) := by decide +kernel
theorem dX5_holds_27 : decode cX5_holds 27 = .ok (.aload_n 0, 1) := by decide +kernel
theorem dX5_holds_28 : decode cX5_holds 28 = .ok (.iload_n 1, 1) := by decide +kernel
theorem dX5_holds_29 : decode cX5_holds 29 = .ok (.iload 6, 2) := by decide +kernel
theorem dX5_holds_31 : decode cX5_holds 31 = .ok (.iconst 0, 1) := by decide +kernel
theorem dX5_holds_32 : decode cX5_holds 32 = .ok (.invokevirtual 60, 3) := by decide +kernel
theorem dX5_holds_35 : decode cX5_holds 35 = .ok (.iload 4, 2) := by decide +kernel
theorem dX5_holds_37 : decode cX5_holds 37 = .ok (.invokestatic 166, 3) := by decide +kernel
theorem dX5_holds_40 : decode cX5_holds 40 = .ok (.imul, 1) := by decide +kernel
theorem dX5_holds_41 : decode cX5_holds 41 = .ok (.iload_n 3, 1) := by decide +kernel
theorem dX5_holds_42 : decode cX5_holds 42 = .ok (.aload_n 0, 1) := by decide +kernel
theorem dX5_holds_43 : decode cX5_holds 43 = .ok (.iload_n 1, 1) := by decide +kernel
theorem dX5_holds_44 : decode cX5_holds 44 = .ok (.iload 6, 2) := by decide +kernel
theorem dX5_holds_46 : decode cX5_holds 46 = .ok (.iconst 1, 1) := by decide +kernel
theorem dX5_holds_47 : decode cX5_holds 47 = .ok (.invokevirtual 60, 3) := by decide +kernel
theorem dX5_holds_50 : decode cX5_holds 50 = .ok (.iload 4, 2) := by decide +kernel
theorem dX5_holds_52 : decode cX5_holds 52 = .ok (.invokestatic 166, 3) := by decide +kernel
theorem dX5_holds_55 : decode cX5_holds 55 = .ok (.imul, 1) := by decide +kernel
theorem dX5_holds_56 : decode cX5_holds 56 = .ok (.iadd, 1) := by decide +kernel
theorem dX5_holds_57 : decode cX5_holds 57 = .ok (.istore 5, 2) := by decide +kernel
theorem dX5_holds_59 : decode cX5_holds 59 = .ok (.iinc 6 1, 3) := by decide +kernel
theorem dX5_holds_62 : decode cX5_holds 62 = .ok (.goto (-56), 3) := by decide +kernel
theorem dX5_holds_65 : decode cX5_holds 65 = .ok (.iload 5, 2) := by decide +kernel
theorem dX5_holds_67 : decode cX5_holds 67 = .ok (.iload 4, 2) := by decide +kernel
theorem dX5_holds_69 : decode cX5_holds 69 = .ok (.irem, 1) := by decide +kernel
theorem dX5_holds_70 : decode cX5_holds 70 = .ok (.ifCond .ne 7, 3) := by decide +kernel
theorem dX5_holds_73 : decode cX5_holds 73 = .ok (.iconst 1, 1) := by decide +kernel
theorem dX5_holds_74 : decode cX5_holds 74 = .ok (.goto 4, 3) := by decide +kernel
theorem dX5_holds_77 : decode cX5_holds 77 = .ok (.iconst 0, 1) := by decide +kernel
theorem dX5_holds_78 : decode cX5_holds 78 = .ok (.ireturn, 1) := by decide +kernel
theorem dX5_roots_0 : decode cX5_roots 0 = .ok (.iload_n 1, 1) := by decide +kernel
theorem dX5_roots_1 : decode cX5_roots 1 = .ok (.invokestatic 52, 3) := by decide +kernel
theorem dX5_roots_4 : decode cX5_roots 4 = .ok (.ifCond .eq 10, 3) := by decide +kernel

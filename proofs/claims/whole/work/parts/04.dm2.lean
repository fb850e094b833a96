theorem dX10_functionCell_34 : decode cX10_functionCell 34 = .ok (.iload 5, 2) := by decide +kernel
theorem dX10_functionCell_36 : decode cX10_functionCell 36 = .ok (.imul, 1) := by decide +kernel
theorem dX10_functionCell_37 : decode cX10_functionCell 37 = .ok (.iconst 2, 1) := by decide +kernel
theorem dX10_functionCell_38 : decode cX10_functionCell 38 = .ok (.iadd, 1) := by decide +kernel
theorem dX10_functionCell_39 : decode cX10_functionCell 39 = .ok (.iload_n 3, 1) := by decide +kernel
theorem dX10_functionCell_40 : decode cX10_functionCell 40 = .ok (.iastore, 1) := by decide +kernel
theorem dX10_functionCell_41 : decode cX10_functionCell 41 = .ok (.aload_n 0, 1) := by decide +kernel
theorem dX10_functionCell_42 : decode cX10_functionCell 42 = .ok (.getfield 73, 3) := by decide +kernel
theorem dX10_functionCell_45 : decode cX10_functionCell 45 = .ok (.iconst 4, 1) := by decide +kernel
theorem dX10_functionCell_46 : decode cX10_functionCell 46 = .ok (.iload 5, 2) := by decide +kernel
theorem dX10_functionCell_48 : decode cX10_functionCell 48 = .ok (.imul, 1) := by decide +kernel
theorem dX10_functionCell_49 : decode cX10_functionCell 49 = .ok (.iconst 3, 1) := by decide +kernel
theorem dX10_functionCell_50 : decode cX10_functionCell 50 = .ok (.iadd, 1) := by decide +kernel
theorem dX10_functionCell_51 : decode cX10_functionCell 51 = .ok (.iload 4, 2) := by decide +kernel
theorem dX10_functionCell_53 : decode cX10_functionCell 53 = .ok (.iastore, 1) := by decide +kernel
theorem dX10_functionCell_54 : decode cX10_functionCell 54 = .ok (.iload 5, 2) := by decide +kernel
theorem dX10_functionCell_56 : decode cX10_functionCell 56 = .ok (.ireturn, 1) := by decide +kernel
theorem dX10_end_0 : decode cX10_end 0 = .ok (.iload_n 1, 1) := by decide +kernel
theorem dX10_end_1 : decode cX10_end 1 = .ok (.istore_n 2, 1) := by decide +kernel
theorem dX10_end_2 : decode cX10_end 2 = .ok (.aload_n 0, 1) := by decide +kernel
theorem dX10_end_3 : decode cX10_end 3 = .ok (.getfield 70, 3) := by decide +kernel
theorem dX10_end_6 : decode cX10_end 6 = .ok (.iload_n 2, 1) := by decide +kernel
theorem dX10_end_7 : decode cX10_end 7 = .ok (.iaload, 1) := by decide +kernel
theorem dX10_end_8 : decode cX10_end 8 = .ok (.ifCond .lt 13, 3) := by decide +kernel
theorem dX10_end_11 : decode cX10_end 11 = .ok (.aload_n 0, 1) := by decide +kernel
theorem dX10_end_12 : decode cX10_end 12 = .ok (.getfield 70, 3) := by decide +kernel
theorem dX10_end_15 : decode cX10_end 15 = .ok (.iload_n 2, 1) := by decide +kernel
theorem dX10_end_16 : decode cX10_end 16 = .ok (.iaload, 1) := by decide +kernel
theorem dX10_end_17 : decode cX10_end 17 = .ok (.istore_n 2, 1) := by decide +kernel
theorem dX10_end_18 : decode cX10_end 18 = .ok (.goto (-16), 3) := by decide +kernel
theorem dX10_end_21 : decode cX10_end 21 = .ok (.iload_n 2, 1) := by decide +kernel
theorem dX10_end_22 : decode cX10_end 22 = .ok (.ireturn, 1) := by decide +kernel
theorem dX10_contains_0 : decode cX10_contains 0 = .ok (.iconst 0, 1) := by decide +kernel
theorem dX10_contains_1 : decode cX10_contains 1 = .ok (.istore_n 3, 1) := by decide +kernel
theorem dX10_contains_2 : decode cX10_contains 2 = .ok (.sipush 640, 3) := by decide +kernel
theorem dX10_contains_5 : decode cX10_contains 5 = .ok (.iconst 1, 1) := by decide +kernel
theorem dX10_contains_6 : decode cX10_contains 6 = .ok (.aload_n 0, 1) := by decide +kernel
theorem dX10_contains_7 : decode cX10_contains 7 = .ok (.getfield 230, 3) := by decide +kernel
theorem dX10_contains_10 : decode cX10_contains 10 = .ok (.isub, 1) := by decide +kernel
theorem dX10_contains_11 : decode cX10_contains 11 = .ok (.imul, 1) := by decide +kernel
theorem dX10_contains_12 : decode cX10_contains 12 = .ok (.istore 4, 2) := by decide +kernel
theorem dX10_contains_14 : decode cX10_contains 14 = .ok (.iload 4, 2) := by decide +kernel
theorem dX10_contains_16 : decode cX10_contains 16 = .ok (.istore 5, 2) := by decide +kernel
theorem dX10_contains_18 : decode cX10_contains 18 = .ok (.iload 5, 2) := by decide +kernel
theorem dX10_contains_20 : decode cX10_contains 20 = .ok (.iload 4, 2) := by decide +kernel
theorem dX10_contains_22 : decode cX10_contains 22 = .ok (.aload_n 0, 1) := by decide +kernel
theorem dX10_contains_23 : decode cX10_contains 23 = .ok (.getfield 233, 3) := by decide +kernel
theorem dX10_contains_26 : decode cX10_contains 26 = .ok (.iadd, 1) := by decide +kernel
theorem dX10_contains_27 : decode cX10_contains 27 = .ok (.if_icmp .ge 17, 3) := by decide +kernel
theorem dX10_contains_30 : decode cX10_contains 30 = .ok (.aload_n 0, 1) := by decide +kernel
theorem dX10_contains_31 : decode cX10_contains 31 = .ok (.getfield 89, 3) := by decide +kernel
theorem dX10_contains_34 : decode cX10_contains 34 = .ok (.iload 5, 2) := by decide +kernel
theorem dX10_contains_36 : decode cX10_contains 36 = .ok (.iconst 0, 1) := by decide +kernel
theorem dX10_contains_37 : decode cX10_contains 37 = .ok (.bastore, 1) := by decide +kernel
theorem dX10_contains_38 : decode cX10_contains 38 = .ok (.iinc 5 1, 3) := by decide +kernel
theorem dX10_contains_41 : decode cX10_contains 41 = .ok (.goto (-23), 3) := by decide +kernel
theorem dX10_contains_44 : decode cX10_contains 44 = .ok (.aload_n 0, 1) := by decide +kernel
theorem dX10_contains_45 : decode cX10_contains 45 = .ok (.getfield 83, 3) := by decide +kernel
theorem dX10_contains_48 : decode cX10_contains 48 = .ok (.iload_n 3, 1) := by decide +kernel
theorem dX10_contains_49 : decode cX10_contains 49 = .ok (.iload_n 1, 1) := by decide +kernel
theorem dX10_contains_50 : decode cX10_contains 50 = .ok (.iastore, 1) := by decide +kernel
theorem dX10_contains_51 : decode cX10_contains 51 = .ok (.iinc 3 1, 3) := by decide +kernel
theorem dX10_contains_54 : decode cX10_contains 54 = .ok (.iload_n 3, 1) := by decide +kernel
theorem dX10_contains_55 : decode cX10_contains 55 = .ok (.ifCond .le 94, 3) := by decide +kernel
theorem dX10_contains_58 : decode cX10_contains 58 = .ok (.iinc 3 (-1), 3) := by decide +kernel
theorem dX10_contains_61 : decode cX10_contains 61 = .ok (.aload_n 0, 1) := by decide +kernel
theorem dX10_contains_62 : decode cX10_contains 62 = .ok (.aload_n 0, 1) := by decide +kernel
theorem dX10_contains_63 : decode cX10_contains 63 = .ok (.getfield 83, 3) := by decide +kernel
theorem dX10_contains_66 : decode cX10_contains 66 = .ok (.iload_n 3, 1) := by decide +kernel
theorem dX10_contains_67 : decode cX10_contains 67 = .ok (.iaload, 1) := by decide +kernel
theorem dX10_contains_68 : decode cX10_contains 68 = .ok (.invokevirtual 239, 3) := by decide +kernel
theorem dX10_contains_71 : decode cX10_contains 71 = .ok (.istore 5, 2) := by decide +kernel
theorem dX10_contains_73 : decode cX10_contains 73 = .ok (.iload 5, 2) := by decide +kernel
theorem dX10_contains_75 : decode cX10_contains 75 = .ok (.iload_n 2, 1) := by decide +kernel
theorem dX10_contains_76 : decode cX10_contains 76 = .ok (.if_icmp .ne 5, 3) := by decide +kernel
theorem dX10_contains_79 : decode cX10_contains 79 = .ok (.iconst 1, 1) := by decide +kernel
theorem dX10_contains_80 : decode cX10_contains 80 = .ok (.ireturn, 1) := by decide +kernel
theorem dX10_contains_81 : decode cX10_contains 81 = .ok (.aload_n 0, 1) := by decide +kernel
theorem dX10_contains_82 : decode cX10_contains 82 = .ok (.getfield 67, 3) := by decide +kernel
theorem dX10_contains_85 : decode cX10_contains 85 = .ok (.iload 5, 2) := by decide +kernel
theorem dX10_contains_87 : decode cX10_contains 87 = .ok (.iaload, 1) := by decide +kernel
theorem dX10_contains_88 : decode cX10_contains 88 = .ok (.iconst 2, 1) := by decide +kernel
theorem dX10_contains_89 : decode cX10_contains 89 = .ok (.if_icmp .ne 57, 3) := by decide +kernel
theorem dX10_contains_92 : decode cX10_contains 92 = .ok (.aload_n 0, 1) := by decide +kernel
theorem dX10_contains_93 : decode cX10_contains 93 = .ok (.getfield 89, 3) := by decide +kernel
theorem dX10_contains_96 : decode cX10_contains 96 = .ok (.iload 5, 2) := by decide +kernel
theorem dX10_contains_98 : decode cX10_contains 98 = .ok (.baload, 1) := by decide +kernel
theorem dX10_contains_99 : decode cX10_contains 99 = .ok (.ifCond .ne 47, 3) := by decide +kernel
theorem dX10_contains_102 : decode cX10_contains 102 = .ok (.aload_n 0, 1) := by decide +kernel
theorem dX10_contains_103 : decode cX10_contains 103 = .ok (.getfield 89, 3) := by decide +kernel
theorem dX10_contains_106 : decode cX10_contains 106 = .ok (.iload 5, 2) := by decide +kernel
theorem dX10_contains_108 : decode cX10_contains 108 = .ok (.iconst 1, 1) := by decide +kernel
theorem dX10_contains_109 : decode cX10_contains 109 = .ok (.bastore, 1) := by decide +kernel
theorem dX10_contains_110 : decode cX10_contains 110 = .ok (.iconst 0, 1) := by decide +kernel
theorem dX10_contains_111 : decode cX10_contains 111 = .ok (.istore 6, 2) := by decide +kernel
theorem dX10_contains_113 : decode cX10_contains 113 = .ok (.iload 6, 2) := by decide +kernel
theorem dX10_contains_115 : decode cX10_contains 115 = .ok (.iconst 4, 1) := by decide +kernel
theorem dX10_contains_116 : decode cX10_contains 116 = .ok (.if_icmp .ge 30, 3) := by decide +kernel
theorem dX10_contains_119 : decode cX10_contains 119 = .ok (.aload_n 0, 1) := by decide +kernel
theorem dX10_contains_120 : decode cX10_contains 120 = .ok (.getfield 83, 3) := by decide +kernel
theorem dX10_contains_123 : decode cX10_contains 123 = .ok (.iload_n 3, 1) := by decide +kernel
theorem dX10_contains_124 : decode cX10_contains 124 = .ok (.aload_n 0, 1) := by decide +kernel
theorem dX10_contains_125 : decode cX10_contains 125 = .ok (.getfield 73, 3) := by decide +kernel
theorem dX10_contains_128 : decode cX10_contains 128 = .ok (.iconst 4, 1) := by decide +kernel
theorem dX10_contains_129 : decode cX10_contains 129 = .ok (.iload 5, 2) := by decide +kernel
theorem dX10_contains_131 : decode cX10_contains 131 = .ok (.imul, 1) := by decide +kernel
theorem dX10_contains_132 : decode cX10_contains 132 = .ok (.iload 6, 2) := by decide +kernel
theorem dX10_contains_134 : decode cX10_contains 134 = .ok (.iadd, 1) := by decide +kernel
theorem dX10_contains_135 : decode cX10_contains 135 = .ok (.iaload, 1) := by decide +kernel
theorem dX10_contains_136 : decode cX10_contains 136 = .ok (.iastore, 1) := by decide +kernel
theorem dX10_contains_137 : decode cX10_contains 137 = .ok (.iinc 3 1, 3) := by decide +kernel
theorem dX10_contains_140 : decode cX10_contains 140 = .ok (.iinc 6 1, 3) := by decide +kernel
theorem dX10_contains_143 : decode cX10_contains 143 = .ok (.goto (-30), 3) := by decide +kernel
theorem dX10_contains_146 : decode cX10_contains 146 = .ok (.goto (-92), 3) := by decide +kernel
theorem dX10_contains_149 : decode cX10_contains 149 = .ok (.iconst 0, 1) := by decide +kernel
theorem dX10_contains_150 : decode cX10_contains 150 = .ok (.ireturn, 1) := by decide +kernel
theorem dX10_equal_0 : decode cX10_equal 0 = .ok (.aload_n 0, 1) := by decide +kernel
theorem dX10_equal_1 : decode cX10_equal 1 = .ok (.getfield 86, 3) := by decide +kernel
theorem dX10_equal_4 : decode cX10_equal 4 = .ok (.iconst 0, 1) := by decide +kernel
theorem dX10_equal_5 : decode cX10_equal 5 = .ok (.iload_n 1, 1) := by decide +kernel
theorem dX10_equal_6 : decode cX10_equal 6 = .ok (.iastore, 1) := by decide +kernel
theorem dX10_equal_7 : decode cX10_equal 7 = .ok (.aload_n 0, 1) := by decide +kernel
theorem dX10_equal_8 : decode cX10_equal 8 = .ok (.getfield 86, 3) := by decide +kernel
theorem dX10_equal_11 : decode cX10_equal 11 = .ok (.iconst 1, 1) := by decide +kernel
theorem dX10_equal_12 : decode cX10_equal 12 = .ok (.iload_n 2, 1) := by decide +kernel
theorem dX10_equal_13 : decode cX10_equal 13 = .ok (.iastore, 1) := by decide +kernel
theorem dX10_equal_14 : decode cX10_equal 14 = .ok (.iconst 2, 1) := by decide +kernel
theorem dX10_equal_15 : decode cX10_equal 15 = .ok (.istore_n 3, 1) := by decide +kernel
theorem dX10_equal_16 : decode cX10_equal 16 = .ok (.iload_n 3, 1) := by decide +kernel
theorem dX10_equal_17 : decode cX10_equal 17 = .ok (.ifCond .le 239, 3) := by decide +kernel
theorem dX10_equal_20 : decode cX10_equal 20 = .ok (.aload_n 0, 1) := by decide +kernel
theorem dX10_equal_21 : decode cX10_equal 21 = .ok (.getfield 242, 3) := by decide +kernel
theorem dX10_equal_24 : decode cX10_equal 24 = .ok (.ifCond .ne 232, 3) := by decide +kernel
theorem dX10_equal_27 : decode cX10_equal 27 = .ok (.iinc 3 (-2), 3) := by decide +kernel
theorem dX10_equal_30 : decode cX10_equal 30 = .ok (.aload_n 0, 1) := by decide +kernel
theorem dX10_equal_31 : decode cX10_equal 31 = .ok (.aload_n 0, 1) := by decide +kernel
theorem dX10_equal_32 : decode cX10_equal 32 = .ok (.getfield 86, 3) := by decide +kernel
theorem dX10_equal_35 : decode cX10_equal 35 = .ok (.iload_n 3, 1) := by decide +kernel
theorem dX10_equal_36 : decode cX10_equal 36 = .ok (.iaload, 1) := by decide +kernel
theorem dX10_equal_37 : decode cX10_equal 37 = .ok (.invokevirtual 239, 3) := by decide +kernel
theorem dX10_equal_40 : decode cX10_equal 40 = .ok (.istore 4, 2) := by decide +kernel
theorem dX10_equal_42 : decode cX10_equal 42 = .ok (.aload_n 0, 1) := by decide +kernel
theorem dX10_equal_43 : decode cX10_equal 43 = .ok (.aload_n 0, 1) := by decide +kernel
theorem dX10_equal_44 : decode cX10_equal 44 = .ok (.getfield 86, 3) := by decide +kernel
theorem dX10_equal_47 : decode cX10_equal 47 = .ok (.iload_n 3, 1) := by decide +kernel
theorem dX10_equal_48 : decode cX10_equal 48 = .ok (.iconst 1, 1) := by decide +kernel
theorem dX10_equal_49 : decode cX10_equal 49 = .ok (.iadd, 1) := by decide +kernel
theorem dX10_equal_50 : decode cX10_equal 50 = .ok (.iaload, 1) := by decide +kernel
theorem dX10_equal_51 : decode cX10_equal 51 = .ok (.invokevirtual 239, 3) := by decide +kernel
theorem dX10_equal_54 : decode cX10_equal 54 = .ok (.istore 5, 2) := by decide +kernel
theorem dX10_equal_56 : decode cX10_equal 56 = .ok (.iload 4, 2) := by decide +kernel
theorem dX10_equal_58 : decode cX10_equal 58 = .ok (.iload 5, 2) := by decide +kernel
theorem dX10_equal_60 : decode cX10_equal 60 = .ok (.if_icmp .ne 6, 3) := by decide +kernel
theorem dX10_equal_63 : decode cX10_equal 63 = .ok (.goto (-47), 3) := by decide +kernel
theorem dX10_equal_66 : decode cX10_equal 66 = .ok (.aload_n 0, 1) := by decide +kernel
theorem dX10_equal_67 : decode cX10_equal 67 = .ok (.getfield 67, 3) := by decide +kernel
theorem dX10_equal_70 : decode cX10_equal 70 = .ok (.iload 4, 2) := by decide +kernel
theorem dX10_equal_72 : decode cX10_equal 72 = .ok (.iaload, 1) := by decide +kernel
theorem dX10_equal_73 : decode cX10_equal 73 = .ok (.iconst 3, 1) := by decide +kernel
theorem dX10_equal_74 : decode cX10_equal 74 = .ok (.if_icmp .eq 14, 3) := by decide +kernel
theorem dX10_equal_77 : decode cX10_equal 77 = .ok (.aload_n 0, 1) := by decide +kernel
theorem dX10_equal_78 : decode cX10_equal 78 = .ok (.getfield 67, 3) := by decide +kernel
theorem dX10_equal_81 : decode cX10_equal 81 = .ok (.iload 5, 2) := by decide +kernel
theorem dX10_equal_83 : decode cX10_equal 83 = .ok (.iaload, 1) := by decide +kernel
theorem dX10_equal_84 : decode cX10_equal 84 = .ok (.iconst 3, 1) := by decide +kernel
theorem dX10_equal_85 : decode cX10_equal 85 = .ok (.if_icmp .ne 67, 3) := by decide +kernel
theorem dX10_equal_88 : decode cX10_equal 88 = .ok (.aload_n 0, 1) := by decide +kernel
theorem dX10_equal_89 : decode cX10_equal 89 = .ok (.getfield 67, 3) := by decide +kernel
theorem dX10_equal_92 : decode cX10_equal 92 = .ok (.iload 4, 2) := by decide +kernel
theorem dX10_equal_94 : decode cX10_equal 94 = .ok (.iaload, 1) := by decide +kernel
theorem dX10_equal_95 : decode cX10_equal 95 = .ok (.iconst 3, 1) := by decide +kernel
theorem dX10_equal_96 : decode cX10_equal 96 = .ok (.if_icmp .ne 8, 3) := by decide +kernel
theorem dX10_equal_99 : decode cX10_equal 99 = .ok (.iload 4, 2) := by decide +kernel
theorem dX10_equal_101 : decode cX10_equal 101 = .ok (.goto 5, 3) := by decide +kernel
theorem dX10_equal_104 : decode cX10_equal 104 = .ok (.iload 5, 2) := by decide +kernel
theorem dX10_equal_106 : decode cX10_equal 106 = .ok (.istore 6, 2) := by decide +kernel
theorem dX10_equal_108 : decode cX10_equal 108 = .ok (.aload_n 0, 1) := by decide +kernel
theorem dX10_equal_109 : decode cX10_equal 109 = .ok (.getfield 67, 3) := by decide +kernel
theorem dX10_equal_112 : decode cX10_equal 112 = .ok (.iload 4, 2) := by decide +kernel
theorem dX10_equal_114 : decode cX10_equal 114 = .ok (.iaload, 1) := by decide +kernel
theorem dX10_equal_115 : decode cX10_equal 115 = .ok (.iconst 3, 1) := by decide +kernel
theorem dX10_equal_116 : decode cX10_equal 116 = .ok (.if_icmp .ne 8, 3) := by decide +kernel
theorem dX10_equal_119 : decode cX10_equal 119 = .ok (.iload 5, 2) := by decide +kernel
theorem dX10_equal_121 : decode cX10_equal 121 = .ok (.goto 5, 3) := by decide +kernel
theorem dX10_equal_124 : decode cX10_equal 124 = .ok (.iload 4, 2) := by decide +kernel
theorem dX10_equal_126 : decode cX10_equal 126 = .ok (.istore 7, 2) := by decide +kernel
theorem dX10_equal_128 : decode cX10_equal 128 = .ok (.aload_n 0, 1) := by decide +kernel
theorem dX10_equal_129 : decode cX10_equal 129 = .ok (.aload_n 0, 1) := by decide +kernel
theorem dX10_equal_130 : decode cX10_equal 130 = .ok (.iload 7, 2) := by decide +kernel
theorem dX10_equal_132 : decode cX10_equal 132 = .ok (.iload 6, 2) := by decide +kernel
theorem dX10_equal_134 : decode cX10_equal 134 = .ok (.invokevirtual 245, 3) := by decide +kernel
theorem dX10_equal_137 : decode cX10_equal 137 = .ok (.putfield 242, 3) := by decide +kernel
theorem dX10_equal_140 : decode cX10_equal 140 = .ok (.aload_n 0, 1) := by decide +kernel
theorem dX10_equal_141 : decode cX10_equal 141 = .ok (.getfield 70, 3) := by decide +kernel
theorem dX10_equal_144 : decode cX10_equal 144 = .ok (.iload 6, 2) := by decide +kernel
theorem dX10_equal_146 : decode cX10_equal 146 = .ok (.iload 7, 2) := by decide +kernel
theorem dX10_equal_148 : decode cX10_equal 148 = .ok (.iastore, 1) := by decide +kernel
theorem dX10_equal_149 : decode cX10_equal 149 = .ok (.goto 104, 3) := by decide +kernel
theorem dX10_equal_152 : decode cX10_equal 152 = .ok (.aload_n 0, 1) := by decide +kernel
theorem dX10_equal_153 : decode cX10_equal 153 = .ok (.getfield 67, 3) := by decide +kernel
theorem dX10_equal_156 : decode cX10_equal 156 = .ok (.iload 4, 2) := by decide +kernel
theorem dX10_equal_158 : decode cX10_equal 158 = .ok (.iaload, 1) := by decide +kernel
theorem dX10_equal_159 : decode cX10_equal 159 = .ok (.aload_n 0, 1) := by decide +kernel
theorem dX10_equal_160 : decode cX10_equal 160 = .ok (.getfield 67, 3) := by decide +kernel
theorem dX10_equal_163 : decode cX10_equal 163 = .ok (.iload 5, 2) := by decide +kernel
theorem dX10_equal_165 : decode cX10_equal 165 = .ok (.iaload, 1) := by decide +kernel
theorem dX10_equal_166 : decode cX10_equal 166 = .ok (.if_icmp .eq 11, 3) := by decide +kernel
theorem dX10_equal_169 : decode cX10_equal 169 = .ok (.aload_n 0, 1) := by decide +kernel
theorem dX10_equal_170 : decode cX10_equal 170 = .ok (.iconst 1, 1) := by decide +kernel
theorem dX10_equal_171 : decode cX10_equal 171 = .ok (.putfield 242, 3) := by decide +kernel
theorem dX10_equal_174 : decode cX10_equal 174 = .ok (.goto 79, 3) := by decide +kernel
theorem dX10_equal_177 : decode cX10_equal 177 = .ok (.aload_n 0, 1) := by decide +kernel
theorem dX10_equal_178 : decode cX10_equal 178 = .ok (.getfield 67, 3) := by decide +kernel
theorem dX10_equal_181 : decode cX10_equal 181 = .ok (.iload 4, 2) := by decide +kernel
theorem dX10_equal_183 : decode cX10_equal 183 = .ok (.iaload, 1) := by decide +kernel
theorem dX10_equal_184 : decode cX10_equal 184 = .ok (.iconst 2, 1) := by decide +kernel
theorem dX10_equal_185 : decode cX10_equal 185 = .ok (.if_icmp .ne 68, 3) := by decide +kernel
theorem dX10_equal_188 : decode cX10_equal 188 = .ok (.aload_n 0, 1) := by decide +kernel
theorem dX10_equal_189 : decode cX10_equal 189 = .ok (.getfield 70, 3) := by decide +kernel
theorem dX10_equal_192 : decode cX10_equal 192 = .ok (.iload 4, 2) := by decide +kernel
theorem dX10_equal_194 : decode cX10_equal 194 = .ok (.iload 5, 2) := by decide +kernel
theorem dX10_equal_196 : decode cX10_equal 196 = .ok (.iastore, 1) := by decide +kernel
theorem dX10_equal_197 : decode cX10_equal 197 = .ok (.iconst 0, 1) := by decide +kernel
theorem dX10_equal_198 : decode cX10_equal 198 = .ok (.istore 6, 2) := by decide +kernel
theorem dX10_equal_200 : decode cX10_equal 200 = .ok (.iload 6, 2) := by decide +kernel
theorem dX10_equal_202 : decode cX10_equal 202 = .ok (.iconst 4, 1) := by decide +kernel
theorem dX10_equal_203 : decode cX10_equal 203 = .ok (.if_icmp .ge 50, 3) := by decide +kernel
theorem dX10_equal_206 : decode cX10_equal 206 = .ok (.aload_n 0, 1) := by decide +kernel
theorem dX10_equal_207 : decode cX10_equal 207 = .ok (.getfield 86, 3) := by decide +kernel
theorem dX10_equal_210 : decode cX10_equal 210 = .ok (.iload_n 3, 1) := by decide +kernel
theorem dX10_equal_211 : decode cX10_equal 211 = .ok (.aload_n 0, 1) := by decide +kernel
theorem dX10_equal_212 : decode cX10_equal 212 = .ok (.getfield 73, 3) := by decide +kernel
theorem dX10_equal_215 : decode cX10_equal 215 = .ok (.iconst 4, 1) := by decide +kernel
theorem dX10_equal_216 : decode cX10_equal 216 = .ok (.iload 4, 2) := by decide +kernel
theorem dX10_equal_218 : decode cX10_equal 218 = .ok (.imul, 1) := by decide +kernel
theorem dX10_equal_219 : decode cX10_equal 219 = .ok (.iload 6, 2) := by decide +kernel
theorem dX10_equal_221 : decode cX10_equal 221 = .ok (.iadd, 1) := by decide +kernel
theorem dX10_equal_222 : decode cX10_equal 222 = .ok (.iaload, 1) := by decide +kernel
theorem dX10_equal_223 : decode cX10_equal 223 = .ok (.iastore, 1) := by decide +kernel
theorem dX10_equal_224 : decode cX10_equal 224 = .ok (.aload_n 0, 1) := by decide +kernel
theorem dX10_equal_225 : decode cX10_equal 225 = .ok (.getfield 86, 3) := by decide +kernel
theorem dX10_equal_228 : decode cX10_equal 228 = .ok (.iload_n 3, 1) := by decide +kernel
theorem dX10_equal_229 : decode cX10_equal 229 = .ok (.iconst 1, 1) := by decide +kernel
theorem dX10_equal_230 : decode cX10_equal 230 = .ok (.iadd, 1) := by decide +kernel
theorem dX10_equal_231 : decode cX10_equal 231 = .ok (.aload_n 0, 1) := by decide +kernel
theorem dX10_equal_232 : decode cX10_equal 232 = .ok (.getfield 73, 3) := by decide +kernel
theorem dX10_equal_235 : decode cX10_equal 235 = .ok (.iconst 4, 1) := by decide +kernel
theorem dX10_equal_236 : decode cX10_equal 236 = .ok (.iload 5, 2) := by decide +kernel
theorem dX10_equal_238 : decode cX10_equal 238 = .ok (.imul, 1) := by decide +kernel
theorem dX10_equal_239 : decode cX10_equal 239 = .ok (.iload 6, 2) := by decide +kernel
theorem dX10_equal_241 : decode cX10_equal 241 = .ok (.iadd, 1) := by decide +kernel
theorem dX10_equal_242 : decode cX10_equal 242 = .ok (.iaload, 1) := by decide +kernel
theorem dX10_equal_243 : decode cX10_equal 243 = .ok (.iastore, 1) := by decide +kernel
theorem dX10_equal_244 : decode cX10_equal 244 = .ok (.iinc 3 2, 3) := by decide +kernel
theorem dX10_equal_247 : decode cX10_equal 247 = .ok (.iinc 6 1, 3) := by decide +kernel
theorem dX10_equal_250 : decode cX10_equal 250 = .ok (.goto (-50), 3) := by decide +kernel
theorem dX10_equal_253 : decode cX10_equal 253 = .ok (.goto (-237), 3) := by decide +kernel
theorem dX10_equal_256 : decode cX10_equal 256 = .ok (.return_, 1) := by decide +kernel
theorem dX10_endless_0 : decode cX10_endless 0 = .ok (.sipush 640, 3) := by decide +kernel
theorem dX10_endless_3 : decode cX10_endless 3 = .ok (.iconst 1, 1) := by decide +kernel
theorem dX10_endless_4 : decode cX10_endless 4 = .ok (.aload_n 0, 1) := by decide +kernel
theorem dX10_endless_5 : decode cX10_endless 5 = .ok (.getfield 230, 3) := by decide +kernel
theorem dX10_endless_8 : decode cX10_endless 8 = .ok (.isub, 1) := by decide +kernel
theorem dX10_endless_9 : decode cX10_endless 9 = .ok (.imul, 1) := by decide +kernel
theorem dX10_endless_10 : decode cX10_endless 10 = .ok (.istore_n 1, 1) := by decide +kernel
theorem dX10_endless_11 : decode cX10_endless 11 = .ok (.iload_n 1, 1) := by decide +kernel
theorem dX10_endless_12 : decode cX10_endless 12 = .ok (.istore_n 2, 1) := by decide +kernel
theorem dX10_endless_13 : decode cX10_endless 13 = .ok (.iload_n 2, 1) := by decide +kernel
theorem dX10_endless_14 : decode cX10_endless 14 = .ok (.iload_n 1, 1) := by decide +kernel
theorem dX10_endless_15 : decode cX10_endless 15 = .ok (.aload_n 0, 1) := by decide +kernel
theorem dX10_endless_16 : decode cX10_endless 16 = .ok (.getfield 233, 3) := by decide +kernel
theorem dX10_endless_19 : decode cX10_endless 19 = .ok (.iadd, 1) := by decide +kernel
theorem dX10_endless_20 : decode cX10_endless 20 = .ok (.if_icmp .ge 30, 3) := by decide +kernel
theorem dX10_endless_23 : decode cX10_endless 23 = .ok (.aload_n 0, 1) := by decide +kernel
theorem dX10_endless_24 : decode cX10_endless 24 = .ok (.getfield 89, 3) := by decide +kernel
theorem dX10_endless_27 : decode cX10_endless 27 = .ok (.iload_n 2, 1) := by decide +kernel
theorem dX10_endless_28 : decode cX10_endless 28 = .ok (.aload_n 0, 1) := by decide +kernel
theorem dX10_endless_29 : decode cX10_endless 29 = .ok (.getfield 67, 3) := by decide +kernel
theorem dX10_endless_32 : decode cX10_endless 32 = .ok (.iload_n 2, 1) := by decide +kernel
theorem dX10_endless_33 : decode cX10_endless 33 = .ok (.iaload, 1) := by decide +kernel
theorem dX10_endless_34 : decode cX10_endless 34 = .ok (.iconst 2, 1) := by decide +kernel
theorem dX10_endless_35 : decode cX10_endless 35 = .ok (.if_icmp .eq 7, 3) := by decide +kernel
theorem dX10_endless_38 : decode cX10_endless 38 = .ok (.iconst 1, 1) := by decide +kernel
theorem dX10_endless_39 : decode cX10_endless 39 = .ok (.goto 4, 3) := by decide +kernel
theorem dX10_endless_42 : decode cX10_endless 42 = .ok (.iconst 0, 1) := by decide +kernel
theorem dX10_endless_43 : decode cX10_endless 43 = .ok (.bastore, 1) := by decide +kernel
theorem dX10_endless_44 : decode cX10_endless 44 = .ok (.iinc 2 1, 3) := by decide +kernel
theorem dX10_endless_47 : decode cX10_endless 47 = .ok (.goto (-34), 3) := by decide +kernel
theorem dX10_endless_50 : decode cX10_endless 50 = .ok (.iconst 1, 1) := by decide +kernel
theorem dX10_endless_51 : decode cX10_endless 51 = .ok (.istore_n 2, 1) := by decide +kernel
theorem dX10_endless_52 : decode cX10_endless 52 = .ok (.iload_n 2, 1) := by decide +kernel
theorem dX10_endless_53 : decode cX10_endless 53 = .ok (.ifCond .eq 107, 3) := by decide +kernel
theorem dX10_endless_56 : decode cX10_endless 56 = .ok (.iconst 0, 1) := by decide +kernel
theorem dX10_endless_57 : decode cX10_endless 57 = .ok (.istore_n 2, 1) := by decide +kernel
theorem dX10_endless_58 : decode cX10_endless 58 = .ok (.iload_n 1, 1) := by decide +kernel
theorem dX10_endless_59 : decode cX10_endless 59 = .ok (.istore_n 3, 1) := by decide +kernel
theorem dX10_endless_60 : decode cX10_endless 60 = .ok (.iload_n 3, 1) := by decide +kernel
theorem dX10_endless_61 : decode cX10_endless 61 = .ok (.iload_n 1, 1) := by decide +kernel
theorem dX10_endless_62 : decode cX10_endless 62 = .ok (.aload_n 0, 1) := by decide +kernel
theorem dX10_endless_63 : decode cX10_endless 63 = .ok (.getfield 233, 3) := by decide +kernel
theorem dX10_endless_66 : decode cX10_endless 66 = .ok (.iadd, 1) := by decide +kernel
theorem dX10_endless_67 : decode cX10_endless 67 = .ok (.if_icmp .ge 90, 3) := by decide +kernel
theorem dX10_endless_70 : decode cX10_endless 70 = .ok (.aload_n 0, 1) := by decide +kernel
theorem dX10_endless_71 : decode cX10_endless 71 = .ok (.getfield 89, 3) := by decide +kernel
theorem dX10_endless_74 : decode cX10_endless 74 = .ok (.iload_n 3, 1) := by decide +kernel
theorem dX10_endless_75 : decode cX10_endless 75 = .ok (.baload, 1) := by decide +kernel
theorem dX10_endless_76 : decode cX10_endless 76 = .ok (.ifCond .ne 16, 3) := by decide +kernel
theorem dX10_endless_79 : decode cX10_endless 79 = .ok (.aload_n 0, 1) := by decide +kernel
theorem dX10_endless_80 : decode cX10_endless 80 = .ok (.getfield 70, 3) := by decide +kernel
theorem dX10_endless_83 : decode cX10_endless 83 = .ok (.iload_n 3, 1) := by decide +kernel
theorem dX10_endless_84 : decode cX10_endless 84 = .ok (.iaload, 1) := by decide +kernel
theorem dX10_endless_85 : decode cX10_endless 85 = .ok (.ifCond .ge 7, 3) := by decide +kernel
theorem dX10_endless_88 : decode cX10_endless 88 = .ok (.iconst 1, 1) := by decide +kernel
theorem dX10_endless_89 : decode cX10_endless 89 = .ok (.goto 4, 3) := by decide +kernel
theorem dX10_endless_92 : decode cX10_endless 92 = .ok (.iconst 0, 1) := by decide +kernel
theorem dX10_endless_93 : decode cX10_endless 93 = .ok (.istore 4, 2) := by decide +kernel
theorem dX10_endless_95 : decode cX10_endless 95 = .ok (.iconst 0, 1) := by decide +kernel
theorem dX10_endless_96 : decode cX10_endless 96 = .ok (.istore 5, 2) := by decide +kernel
theorem dX10_endless_98 : decode cX10_endless 98 = .ok (.iload 5, 2) := by decide +kernel
theorem dX10_endless_100 : decode cX10_endless 100 = .ok (.iconst 4, 1) := by decide +kernel
theorem dX10_endless_101 : decode cX10_endless 101 = .ok (.if_icmp .ge 36, 3) := by decide +kernel
theorem dX10_endless_104 : decode cX10_endless 104 = .ok (.iload 4, 2) := by decide +kernel
theorem dX10_endless_106 : decode cX10_endless 106 = .ok (.ifCond .eq 31, 3) := by decide +kernel
theorem dX10_endless_109 : decode cX10_endless 109 = .ok (.aload_n 0, 1) := by decide +kernel
theorem dX10_endless_110 : decode cX10_endless 110 = .ok (.getfield 89, 3) := by decide +kernel
theorem dX10_endless_113 : decode cX10_endless 113 = .ok (.aload_n 0, 1) := by decide +kernel
theorem dX10_endless_114 : decode cX10_endless 114 = .ok (.aload_n 0, 1) := by decide +kernel
theorem dX10_endless_115 : decode cX10_endless 115 = .ok (.getfield 73, 3) := by decide +kernel
theorem dX10_endless_118 : decode cX10_endless 118 = .ok (.iconst 4, 1) := by decide +kernel
theorem dX10_endless_119 : decode cX10_endless 119 = .ok (.iload_n 3, 1) := by decide +kernel
theorem dX10_endless_120 : decode cX10_endless 120 = .ok (.imul, 1) := by decide +kernel
theorem dX10_endless_121 : decode cX10_endless 121 = .ok (.iload 5, 2) := by decide +kernel
theorem dX10_endless_123 : decode cX10_endless 123 = .ok (.iadd, 1) := by decide +kernel
theorem dX10_endless_124 : decode cX10_endless 124 = .ok (.iaload, 1) := by decide +kernel
theorem dX10_endless_125 : decode cX10_endless 125 = .ok (.invokevirtual 239, 3) := by decide +kernel
theorem dX10_endless_128 : decode cX10_endless 128 = .ok (.baload, 1) := by decide +kernel
theorem dX10_endless_129 : decode cX10_endless 129 = .ok (.istore 4, 2) := by decide +kernel
theorem dX10_endless_131 : decode cX10_endless 131 = .ok (.iinc 5 1, 3) := by decide +kernel
theorem dX10_endless_134 : decode cX10_endless 134 = .ok (.goto (-36), 3) := by decide +kernel
theorem dX10_endless_137 : decode cX10_endless 137 = .ok (.iload 4, 2) := by decide +kernel
theorem dX10_endless_139 : decode cX10_endless 139 = .ok (.ifCond .eq 12, 3) := by decide +kernel
theorem dX10_endless_142 : decode cX10_endless 142 = .ok (.aload_n 0, 1) := by decide +kernel
theorem dX10_endless_143 : decode cX10_endless 143 = .ok (.getfield 89, 3) := by decide +kernel
theorem dX10_endless_146 : decode cX10_endless 146 = .ok (.iload_n 3, 1) := by decide +kernel
theorem dX10_endless_147 : decode cX10_endless 147 = .ok (.iconst 1, 1) := by decide +kernel
theorem dX10_endless_148 : decode cX10_endless 148 = .ok (.bastore, 1) := by decide +kernel
theorem dX10_endless_149 : decode cX10_endless 149 = .ok (.iconst 1, 1) := by decide +kernel
theorem dX10_endless_150 : decode cX10_endless 150 = .ok (.istore_n 2, 1) := by decide +kernel
theorem dX10_endless_151 : decode cX10_endless 151 = .ok (.iinc 3 1, 3) := by decide +kernel
theorem dX10_endless_154 : decode cX10_endless 154 = .ok (.goto (-94), 3) := by decide +kernel
theorem dX10_endless_157 : decode cX10_endless 157 = .ok (.goto (-105), 3) := by decide +kernel
theorem dX10_endless_160 : decode cX10_endless 160 = .ok (.iconst 0, 1) := by decide +kernel
theorem dX10_endless_161 : decode cX10_endless 161 = .ok (.istore_n 3, 1) := by decide +kernel
theorem dX10_endless_162 : decode cX10_endless 162 = .ok (.iload_n 1, 1) := by decide +kernel
theorem dX10_endless_163 : decode cX10_endless 163 = .ok (.istore 4, 2) := by decide +kernel
theorem dX10_endless_165 : decode cX10_endless 165 = .ok (.iload 4, 2) := by decide +kernel
theorem dX10_endless_167 : decode cX10_endless 167 = .ok (.iload_n 1, 1) := by decide +kernel
theorem dX10_endless_168 : decode cX10_endless 168 = .ok (.aload_n 0, 1) := by decide +kernel
theorem dX10_endless_169 : decode cX10_endless 169 = .ok (.getfield 233, 3) := by decide +kernel
theorem dX10_endless_172 : decode cX10_endless 172 = .ok (.iadd, 1) := by decide +kernel
theorem dX10_endless_173 : decode cX10_endless 173 = .ok (.if_icmp .ge 39, 3) := by decide +kernel
theorem dX10_endless_176 : decode cX10_endless 176 = .ok (.iload_n 3, 1) := by decide +kernel
theorem dX10_endless_177 : decode cX10_endless 177 = .ok (.ifCond .ne 23, 3) := by decide +kernel
theorem dX10_endless_180 : decode cX10_endless 180 = .ok (.aload_n 0, 1) := by decide +kernel
theorem dX10_endless_181 : decode cX10_endless 181 = .ok (.getfield 89, 3) := by decide +kernel
theorem dX10_endless_184 : decode cX10_endless 184 = .ok (.iload 4, 2) := by decide +kernel
theorem dX10_endless_186 : decode cX10_endless 186 = .ok (.baload, 1) := by decide +kernel
theorem dX10_endless_187 : decode cX10_endless 187 = .ok (.ifCond .ne 17, 3) := by decide +kernel
theorem dX10_endless_190 : decode cX10_endless 190 = .ok (.aload_n 0, 1) := by decide +kernel
theorem dX10_endless_191 : decode cX10_endless 191 = .ok (.getfield 70, 3) := by decide +kernel
theorem dX10_endless_194 : decode cX10_endless 194 = .ok (.iload 4, 2) := by decide +kernel
theorem dX10_endless_196 : decode cX10_endless 196 = .ok (.iaload, 1) := by decide +kernel
theorem dX10_endless_197 : decode cX10_endless 197 = .ok (.ifCond .ge 7, 3) := by decide +kernel
theorem dX10_endless_200 : decode cX10_endless 200 = .ok (.iconst 1, 1) := by decide +kernel
theorem dX10_endless_201 : decode cX10_endless 201 = .ok (.goto 4, 3) := by decide +kernel
theorem dX10_endless_204 : decode cX10_endless 204 = .ok (.iconst 0, 1) := by decide +kernel
theorem dX10_endless_205 : decode cX10_endless 205 = .ok (.istore_n 3, 1) := by decide +kernel
theorem dX10_endless_206 : decode cX10_endless 206 = .ok (.iinc 4 1, 3) := by decide +kernel
theorem dX10_endless_209 : decode cX10_endless 209 = .ok (.goto (-44), 3) := by decide +kernel
theorem dX10_endless_212 : decode cX10_endless 212 = .ok (.iload_n 3, 1) := by decide +kernel
theorem dX10_endless_213 : decode cX10_endless 213 = .ok (.ireturn, 1) := by decide +kernel
theorem dX10_goal_0 : decode cX10_goal 0 = .ok (.aload_n 0, 1) := by decide +kernel
theorem dX10_goal_1 : decode cX10_goal 1 = .ok (.getfield 93, 3) := by decide +kernel
theorem dX10_goal_4 : decode cX10_goal 4 = .ok (.aload_n 0, 1) := by decide +kernel
theorem dX10_goal_5 : decode cX10_goal 5 = .ok (.getfield 249, 3) := by decide +kernel
theorem dX10_goal_8 : decode cX10_goal 8 = .ok (.iload_n 1, 1) := by decide +kernel
theorem dX10_goal_9 : decode cX10_goal 9 = .ok (.iastore, 1) := by decide +kernel
theorem dX10_goal_10 : decode cX10_goal 10 = .ok (.aload_n 0, 1) := by decide +kernel
theorem dX10_goal_11 : decode cX10_goal 11 = .ok (.getfield 96, 3) := by decide +kernel
theorem dX10_goal_14 : decode cX10_goal 14 = .ok (.aload_n 0, 1) := by decide +kernel
theorem dX10_goal_15 : decode cX10_goal 15 = .ok (.getfield 249, 3) := by decide +kernel
theorem dX10_goal_18 : decode cX10_goal 18 = .ok (.iload_n 2, 1) := by decide +kernel
theorem dX10_goal_19 : decode cX10_goal 19 = .ok (.iastore, 1) := by decide +kernel
theorem dX10_goal_20 : decode cX10_goal 20 = .ok (.aload_n 0, 1) := by decide +kernel
theorem dX10_goal_21 : decode cX10_goal 21 = .ok (.getfield 99, 3) := by decide +kernel
theorem dX10_goal_24 : decode cX10_goal 24 = .ok (.aload_n 0, 1) := by decide +kernel
theorem dX10_goal_25 : decode cX10_goal 25 = .ok (.getfield 249, 3) := by decide +kernel
theorem dX10_goal_28 : decode cX10_goal 28 = .ok (.iload_n 3, 1) := by decide +kernel
theorem dX10_goal_29 : decode cX10_goal 29 = .ok (.iastore, 1) := by decide +kernel
theorem dX10_goal_30 : decode cX10_goal 30 = .ok (.aload_n 0, 1) := by decide +kernel
theorem dX10_goal_31 : decode cX10_goal 31 = .ok (.getfield 102, 3) := by decide +kernel
theorem dX10_goal_34 : decode cX10_goal 34 = .ok (.aload_n 0, 1) := by decide +kernel
theorem dX10_goal_35 : decode cX10_goal 35 = .ok (.getfield 249, 3) := by decide +kernel
theorem dX10_goal_38 : decode cX10_goal 38 = .ok (.iload 4, 2) := by decide +kernel
theorem dX10_goal_40 : decode cX10_goal 40 = .ok (.iastore, 1) := by decide +kernel
theorem dX10_goal_41 : decode cX10_goal 41 = .ok (.aload_n 0, 1) := by decide +kernel
theorem dX10_goal_42 : decode cX10_goal 42 = .ok (.getfield 105, 3) := by decide +kernel
theorem dX10_goal_45 : decode cX10_goal 45 = .ok (.aload_n 0, 1) := by decide +kernel
theorem dX10_goal_46 : decode cX10_goal 46 = .ok (.getfield 249, 3) := by decide +kernel
theorem dX10_goal_49 : decode cX10_goal 49 = .ok (.iload 5, 2) := by decide +kernel
theorem dX10_goal_51 : decode cX10_goal 51 = .ok (.iastore, 1) := by decide +kernel
theorem dX10_goal_52 : decode cX10_goal 52 = .ok (.aload_n 0, 1) := by decide +kernel
theorem dX10_goal_53 : decode cX10_goal 53 = .ok (.dup, 1) := by decide +kernel
theorem dX10_goal_54 : decode cX10_goal 54 = .ok (.getfield 249, 3) := by decide +kernel
theorem dX10_goal_57 : decode cX10_goal 57 = .ok (.iconst 1, 1) := by decide +kernel
theorem dX10_goal_58 : decode cX10_goal 58 = .ok (.iadd, 1) := by decide +kernel
theorem dX10_goal_59 : decode cX10_goal 59 = .ok (.putfield 249, 3) := by decide +kernel
theorem dX10_goal_62 : decode cX10_goal 62 = .ok (.return_, 1) := by decide +kernel
theorem dX10_place_0 : decode cX10_place 0 = .ok (.aload_n 0, 1) := by decide +kernel
theorem dX10_place_1 : decode cX10_place 1 = .ok (.dup, 1) := by decide +kernel
theorem dX10_place_2 : decode cX10_place 2 = .ok (.getfield 252, 3) := by decide +kernel
theorem dX10_place_5 : decode cX10_place 5 = .ok (.iconst 1, 1) := by decide +kernel
theorem dX10_place_6 : decode cX10_place 6 = .ok (.iadd, 1) := by decide +kernel
theorem dX10_place_7 : decode cX10_place 7 = .ok (.putfield 252, 3) := by decide +kernel
theorem dX10_place_10 : decode cX10_place 10 = .ok (.aload_n 0, 1) := by decide +kernel
theorem dX10_place_11 : decode cX10_place 11 = .ok (.getfield 108, 3) := by decide +kernel
theorem dX10_place_14 : decode cX10_place 14 = .ok (.aload_n 0, 1) := by decide +kernel
theorem dX10_place_15 : decode cX10_place 15 = .ok (.getfield 252, 3) := by decide +kernel
theorem dX10_place_18 : decode cX10_place 18 = .ok (.iload_n 1, 1) := by decide +kernel
theorem dX10_place_19 : decode cX10_place 19 = .ok (.iastore, 1) := by decide +kernel
theorem dX10_place_20 : decode cX10_place 20 = .ok (.aload_n 0, 1) := by decide +kernel
theorem dX10_place_21 : decode cX10_place 21 = .ok (.getfield 111, 3) := by decide +kernel
theorem dX10_place_24 : decode cX10_place 24 = .ok (.aload_n 0, 1) := by decide +kernel
theorem dX10_place_25 : decode cX10_place 25 = .ok (.getfield 252, 3) := by decide +kernel
theorem dX10_place_28 : decode cX10_place 28 = .ok (.iload_n 2, 1) := by decide +kernel
theorem dX10_place_29 : decode cX10_place 29 = .ok (.iastore, 1) := by decide +kernel
theorem dX10_place_30 : decode cX10_place 30 = .ok (.aload_n 0, 1) := by decide +kernel
theorem dX10_place_31 : decode cX10_place 31 = .ok (.getfield 114, 3) := by decide +kernel
theorem dX10_place_34 : decode cX10_place 34 = .ok (.aload_n 0, 1) := by decide +kernel
theorem dX10_place_35 : decode cX10_place 35 = .ok (.getfield 252, 3) := by decide +kernel
theorem dX10_place_38 : decode cX10_place 38 = .ok (.iload_n 3, 1) := by decide +kernel
theorem dX10_place_39 : decode cX10_place 39 = .ok (.iastore, 1) := by decide +kernel
theorem dX10_place_40 : decode cX10_place 40 = .ok (.aload_n 0, 1) := by decide +kernel
theorem dX10_place_41 : decode cX10_place 41 = .ok (.getfield 252, 3) := by decide +kernel
theorem dX10_place_44 : decode cX10_place 44 = .ok (.ireturn, 1) := by decide +kernel
theorem dX10_variable_0 : decode cX10_variable 0 = .ok (.iload_n 2, 1) := by decide +kernel
theorem dX10_variable_1 : decode cX10_variable 1 = .ok (.istore 4, 2) := by decide +kernel
theorem dX10_variable_3 : decode cX10_variable 3 = .ok (.iconst 0, 1) := by decide +kernel
theorem dX10_variable_4 : decode cX10_variable 4 = .ok (.istore 5, 2) := by decide +kernel
theorem dX10_variable_6 : decode cX10_variable 6 = .ok (.iload 5, 2) := by decide +kernel
theorem dX10_variable_8 : decode cX10_variable 8 = .ok (.iload_n 1, 1) := by decide +kernel
theorem dX10_variable_9 : decode cX10_variable 9 = .ok (.if_icmp .ge 18, 3) := by decide +kernel
theorem dX10_variable_12 : decode cX10_variable 12 = .ok (.aload_n 0, 1) := by decide +kernel
theorem dX10_variable_13 : decode cX10_variable 13 = .ok (.getfield 114, 3) := by decide +kernel
theorem dX10_variable_16 : decode cX10_variable 16 = .ok (.iload 4, 2) := by decide +kernel
theorem dX10_variable_18 : decode cX10_variable 18 = .ok (.iaload, 1) := by decide +kernel
theorem dX10_variable_19 : decode cX10_variable 19 = .ok (.istore 4, 2) := by decide +kernel
theorem dX10_variable_21 : decode cX10_variable 21 = .ok (.iinc 5 1, 3) := by decide +kernel
theorem dX10_variable_24 : decode cX10_variable 24 = .ok (.goto (-18), 3) := by decide +kernel
theorem dX10_variable_27 : decode cX10_variable 27 = .ok (.aload_n 0, 1) := by decide +kernel
theorem dX10_variable_28 : decode cX10_variable 28 = .ok (.getfield 111, 3) := by decide +kernel
theorem dX10_variable_31 : decode cX10_variable 31 = .ok (.iload 4, 2) := by decide +kernel
theorem dX10_variable_33 : decode cX10_variable 33 = .ok (.iaload, 1) := by decide +kernel
theorem dX10_variable_34 : decode cX10_variable 34 = .ok (.iconst (-1), 1) := by decide +kernel
theorem dX10_variable_35 : decode cX10_variable 35 = .ok (.if_icmp .ne 18, 3) := by decide +kernel
theorem dX10_variable_38 : decode cX10_variable 38 = .ok (.aload_n 0, 1) := by decide +kernel
theorem dX10_variable_39 : decode cX10_variable 39 = .ok (.iload_n 3, 1) := by decide +kernel
theorem dX10_variable_40 : decode cX10_variable 40 = .ok (.aload_n 0, 1) := by decide +kernel
theorem dX10_variable_41 : decode cX10_variable 41 = .ok (.getfield 108, 3) := by decide +kernel
theorem dX10_variable_44 : decode cX10_variable 44 = .ok (.iload 4, 2) := by decide +kernel
theorem dX10_variable_46 : decode cX10_variable 46 = .ok (.iaload, 1) := by decide +kernel
theorem dX10_variable_47 : decode cX10_variable 47 = .ok (.invokevirtual 255, 3) := by decide +kernel
theorem dX10_variable_50 : decode cX10_variable 50 = .ok (.goto 36, 3) := by decide +kernel
theorem dX10_variable_53 : decode cX10_variable 53 = .ok (.aload_n 0, 1) := by decide +kernel
theorem dX10_variable_54 : decode cX10_variable 54 = .ok (.invokevirtual 258, 3) := by decide +kernel
theorem dX10_variable_57 : decode cX10_variable 57 = .ok (.istore 5, 2) := by decide +kernel
theorem dX10_variable_59 : decode cX10_variable 59 = .ok (.aload_n 0, 1) := by decide +kernel
theorem dX10_variable_60 : decode cX10_variable 60 = .ok (.iload_n 3, 1) := by decide +kernel
theorem dX10_variable_61 : decode cX10_variable 61 = .ok (.aload_n 0, 1) := by decide +kernel
theorem dX10_variable_62 : decode cX10_variable 62 = .ok (.aload_n 0, 1) := by decide +kernel
theorem dX10_variable_63 : decode cX10_variable 63 = .ok (.getfield 108, 3) := by decide +kernel
theorem dX10_variable_66 : decode cX10_variable 66 = .ok (.iload 4, 2) := by decide +kernel
theorem dX10_variable_68 : decode cX10_variable 68 = .ok (.iaload, 1) := by decide +kernel
theorem dX10_variable_69 : decode cX10_variable 69 = .ok (.iload 5, 2) := by decide +kernel
theorem dX10_variable_71 : decode cX10_variable 71 = .ok (.aload_n 0, 1) := by decide +kernel
theorem dX10_variable_72 : decode cX10_variable 72 = .ok (.getfield 111, 3) := by decide +kernel
theorem dX10_variable_75 : decode cX10_variable 75 = .ok (.iload 4, 2) := by decide +kernel
theorem dX10_variable_77 : decode cX10_variable 77 = .ok (.iaload, 1) := by decide +kernel
theorem dX10_variable_78 : decode cX10_variable 78 = .ok (.iload 5, 2) := by decide +kernel
theorem dX10_variable_80 : decode cX10_variable 80 = .ok (.invokevirtual 261, 3) := by decide +kernel
theorem dX10_variable_83 : decode cX10_variable 83 = .ok (.invokevirtual 255, 3) := by decide +kernel
theorem dX10_variable_86 : decode cX10_variable 86 = .ok (.return_, 1) := by decide +kernel
theorem dX10_function_0 : decode cX10_function 0 = .ok (.aload_n 0, 1) := by decide +kernel
theorem dX10_function_1 : decode cX10_function 1 = .ok (.invokevirtual 258, 3) := by decide +kernel
theorem dX10_function_4 : decode cX10_function 4 = .ok (.istore 5, 2) := by decide +kernel
theorem dX10_function_6 : decode cX10_function 6 = .ok (.aload_n 0, 1) := by decide +kernel
theorem dX10_function_7 : decode cX10_function 7 = .ok (.invokevirtual 258, 3) := by decide +kernel
theorem dX10_function_10 : decode cX10_function 10 = .ok (.istore 6, 2) := by decide +kernel
theorem dX10_function_12 : decode cX10_function 12 = .ok (.aload_n 0, 1) := by decide +kernel
theorem dX10_function_13 : decode cX10_function 13 = .ok (.invokevirtual 258, 3) := by decide +kernel
theorem dX10_function_16 : decode cX10_function 16 = .ok (.istore 7, 2) := by decide +kernel
theorem dX10_function_18 : decode cX10_function 18 = .ok (.aload_n 0, 1) := by decide +kernel
theorem dX10_function_19 : decode cX10_function 19 = .ok (.invokevirtual 258, 3) := by decide +kernel
theorem dX10_function_22 : decode cX10_function 22 = .ok (.istore 8, 2) := by decide +kernel
theorem dX10_function_24 : decode cX10_function 24 = .ok (.aload_n 0, 1) := by decide +kernel
theorem dX10_function_25 : decode cX10_function 25 = .ok (.iload 5, 2) := by decide +kernel
theorem dX10_function_27 : decode cX10_function 27 = .ok (.iload 6, 2) := by decide +kernel
theorem dX10_function_29 : decode cX10_function 29 = .ok (.iload 7, 2) := by decide +kernel
theorem dX10_function_31 : decode cX10_function 31 = .ok (.iload 8, 2) := by decide +kernel
theorem dX10_function_33 : decode cX10_function 33 = .ok (.invokevirtual 261, 3) := by decide +kernel
theorem dX10_function_36 : decode cX10_function 36 = .ok (.istore 9, 2) := by decide +kernel
theorem dX10_function_38 : decode cX10_function 38 = .ok (.aload_n 0, 1) := by decide +kernel
theorem dX10_function_39 : decode cX10_function 39 = .ok (.iload 4, 2) := by decide +kernel
theorem dX10_function_41 : decode cX10_function 41 = .ok (.iload 9, 2) := by decide +kernel
theorem dX10_function_43 : decode cX10_function 43 = .ok (.invokevirtual 255, 3) := by decide +kernel
theorem dX10_function_46 : decode cX10_function 46 = .ok (.iload_n 1, 1) := by decide +kernel
theorem dX10_function_47 : decode cX10_function 47 = .ok (.bipush 11, 2) := by decide +kernel
theorem dX10_function_49 : decode cX10_function 49 = .ok (.if_icmp .ne 14, 3) := by decide +kernel
theorem dX10_function_52 : decode cX10_function 52 = .ok (.aload_n 0, 1) := by decide +kernel
theorem dX10_function_53 : decode cX10_function 53 = .ok (.iload 9, 2) := by decide +kernel
theorem dX10_function_55 : decode cX10_function 55 = .ok (.iconst (-1), 1) := by decide +kernel
theorem dX10_function_56 : decode cX10_function 56 = .ok (.iload_n 3, 1) := by decide +kernel
theorem dX10_function_57 : decode cX10_function 57 = .ok (.invokevirtual 264, 3) := by decide +kernel
theorem dX10_function_60 : decode cX10_function 60 = .ok (.goto 4, 3) := by decide +kernel
theorem dX10_function_63 : decode cX10_function 63 = .ok (.iload_n 3, 1) := by decide +kernel
theorem dX10_function_64 : decode cX10_function 64 = .ok (.istore 10, 2) := by decide +kernel
theorem dX10_function_66 : decode cX10_function 66 = .ok (.aload_n 0, 1) := by decide +kernel
theorem dX10_function_67 : decode cX10_function 67 = .ok (.aload_n 0, 1) := by decide +kernel
theorem dX10_function_68 : decode cX10_function 68 = .ok (.getfield 13, 3) := by decide +kernel
theorem dX10_function_71 : decode cX10_function 71 = .ok (.iload_n 2, 1) := by decide +kernel
theorem dX10_function_72 : decode cX10_function 72 = .ok (.iaload, 1) := by decide +kernel
theorem dX10_function_73 : decode cX10_function 73 = .ok (.aload_n 0, 1) := by decide +kernel
theorem dX10_function_74 : decode cX10_function 74 = .ok (.iload 5, 2) := by decide +kernel
theorem dX10_function_76 : decode cX10_function 76 = .ok (.iconst (-1), 1) := by decide +kernel
theorem dX10_function_77 : decode cX10_function 77 = .ok (.iload 10, 2) := by decide +kernel
theorem dX10_function_79 : decode cX10_function 79 = .ok (.invokevirtual 264, 3) := by decide +kernel
theorem dX10_function_82 : decode cX10_function 82 = .ok (.iload 7, 2) := by decide +kernel
theorem dX10_function_84 : decode cX10_function 84 = .ok (.iload 6, 2) := by decide +kernel
theorem dX10_function_86 : decode cX10_function 86 = .ok (.iload 8, 2) := by decide +kernel
theorem dX10_function_88 : decode cX10_function 88 = .ok (.invokevirtual 267, 3) := by decide +kernel
theorem dX10_function_91 : decode cX10_function 91 = .ok (.return_, 1) := by decide +kernel
theorem dX10_solve_0 : decode cX10_solve 0 = .ok (.aload_n 0, 1) := by decide +kernel
theorem dX10_solve_1 : decode cX10_solve 1 = .ok (.dup, 1) := by decide +kernel
theorem dX10_solve_2 : decode cX10_solve 2 = .ok (.getfield 249, 3) := by decide +kernel
theorem dX10_solve_5 : decode cX10_solve 5 = .ok (.iconst 1, 1) := by decide +kernel
theorem dX10_solve_6 : decode cX10_solve 6 = .ok (.isub, 1) := by decide +kernel
theorem dX10_solve_7 : decode cX10_solve 7 = .ok (.putfield 249, 3) := by decide +kernel
theorem dX10_solve_10 : decode cX10_solve 10 = .ok (.aload_n 0, 1) := by decide +kernel
theorem dX10_solve_11 : decode cX10_solve 11 = .ok (.getfield 93, 3) := by decide +kernel
theorem dX10_solve_14 : decode cX10_solve 14 = .ok (.aload_n 0, 1) := by decide +kernel
theorem dX10_solve_15 : decode cX10_solve 15 = .ok (.getfield 249, 3) := by decide +kernel
theorem dX10_solve_18 : decode cX10_solve 18 = .ok (.iaload, 1) := by decide +kernel
theorem dX10_solve_19 : decode cX10_solve 19 = .ok (.istore_n 1, 1) := by decide +kernel
theorem dX10_solve_20 : decode cX10_solve 20 = .ok (.aload_n 0, 1) := by decide +kernel
theorem dX10_solve_21 : decode cX10_solve 21 = .ok (.getfield 96, 3) := by decide +kernel
theorem dX10_solve_24 : decode cX10_solve 24 = .ok (.aload_n 0, 1) := by decide +kernel
theorem dX10_solve_25 : decode cX10_solve 25 = .ok (.getfield 249, 3) := by decide +kernel
theorem dX10_solve_28 : decode cX10_solve 28 = .ok (.iaload, 1) := by decide +kernel
theorem dX10_solve_29 : decode cX10_solve 29 = .ok (.istore_n 2, 1) := by decide +kernel
theorem dX10_solve_30 : decode cX10_solve 30 = .ok (.aload_n 0, 1) := by decide +kernel
theorem dX10_solve_31 : decode cX10_solve 31 = .ok (.getfield 99, 3) := by decide +kernel
theorem dX10_solve_34 : decode cX10_solve 34 = .ok (.aload_n 0, 1) := by decide +kernel
theorem dX10_solve_35 : decode cX10_solve 35 = .ok (.getfield 249, 3) := by decide +kernel
theorem dX10_solve_38 : decode cX10_solve 38 = .ok (.iaload, 1) := by decide +kernel
theorem dX10_solve_39 : decode cX10_solve 39 = .ok (.istore_n 3, 1) := by decide +kernel
theorem dX10_solve_40 : decode cX10_solve 40 = .ok (.aload_n 0, 1) := by decide +kernel
theorem dX10_solve_41 : decode cX10_solve 41 = .ok (.getfield 102, 3) := by decide +kernel
theorem dX10_solve_44 : decode cX10_solve 44 = .ok (.aload_n 0, 1) := by decide +kernel
theorem dX10_solve_45 : decode cX10_solve 45 = .ok (.getfield 249, 3) := by decide +kernel
theorem dX10_solve_48 : decode cX10_solve 48 = .ok (.iaload, 1) := by decide +kernel
theorem dX10_solve_49 : decode cX10_solve 49 = .ok (.istore 4, 2) := by decide +kernel
theorem dX10_solve_51 : decode cX10_solve 51 = .ok (.aload_n 0, 1) := by decide +kernel
theorem dX10_solve_52 : decode cX10_solve 52 = .ok (.getfield 105, 3) := by decide +kernel
theorem dX10_solve_55 : decode cX10_solve 55 = .ok (.aload_n 0, 1) := by decide +kernel
theorem dX10_solve_56 : decode cX10_solve 56 = .ok (.getfield 249, 3) := by decide +kernel
theorem dX10_solve_59 : decode cX10_solve 59 = .ok (.iaload, 1) := by decide +kernel
theorem dX10_solve_60 : decode cX10_solve 60 = .ok (.istore 5, 2) := by decide +kernel
theorem dX10_solve_62 : decode cX10_solve 62 = .ok (.aload_n 0, 1) := by decide +kernel
theorem dX10_solve_63 : decode cX10_solve 63 = .ok (.getfield 7, 3) := by decide +kernel
theorem dX10_solve_66 : decode cX10_solve 66 = .ok (.iload_n 1, 1) := by decide +kernel
theorem dX10_solve_67 : decode cX10_solve 67 = .ok (.iaload, 1) := by decide +kernel
theorem dX10_solve_68 : decode cX10_solve 68 = .ok (.istore 6, 2) := by decide +kernel
theorem dX10_solve_70 : decode cX10_solve 70 = .ok (.iload 6, 2) := by decide +kernel
theorem dX10_solve_72 : decode cX10_solve 72 = .ok (.iconst 0, 1) := by decide +kernel
theorem dX10_solve_73 : decode cX10_solve 73 = .ok (.iconst 3, 1) := by decide +kernel
theorem dX10_solve_74 : decode cX10_solve 74 = .ok (.invokestatic 123, 3) := by decide +kernel
theorem dX10_solve_77 : decode cX10_solve 77 = .ok (.ifCond .ne 17, 3) := by decide +kernel
theorem dX10_solve_80 : decode cX10_solve 80 = .ok (.iload 6, 2) := by decide +kernel
theorem dX10_solve_82 : decode cX10_solve 82 = .ok (.bipush 11, 2) := by decide +kernel
theorem dX10_solve_84 : decode cX10_solve 84 = .ok (.if_icmp .eq 10, 3) := by decide +kernel
theorem dX10_solve_87 : decode cX10_solve 87 = .ok (.iload 6, 2) := by decide +kernel
theorem dX10_solve_89 : decode cX10_solve 89 = .ok (.bipush 9, 2) := by decide +kernel
theorem dX10_solve_91 : decode cX10_solve 91 = .ok (.if_icmp .ne 11, 3) := by decide +kernel
theorem dX10_solve_94 : decode cX10_solve 94 = .ok (.aload_n 0, 1) := by decide +kernel
theorem dX10_solve_95 : decode cX10_solve 95 = .ok (.iload 4, 2) := by decide +kernel
theorem dX10_solve_97 : decode cX10_solve 97 = .ok (.iload 5, 2) := by decide +kernel
theorem dX10_solve_99 : decode cX10_solve 99 = .ok (.invokevirtual 255, 3) := by decide +kernel
theorem dX10_solve_102 : decode cX10_solve 102 = .ok (.iload 6, 2) := by decide +kernel
theorem dX10_solve_104 : decode cX10_solve 104 = .ok (.tableswitch 171 0 11 #[64, 64, 86, 101, 171, 171, 171, 171, 171, 113, 138, 101], 64) := by decide +kernel
theorem dX10_solve_168 : decode cX10_solve 168 = .ok (.aload_n 0, 1) := by decide +kernel
theorem dX10_solve_169 : decode cX10_solve 169 = .ok (.iload_n 3, 1) := by decide +kernel
theorem dX10_solve_170 : decode cX10_solve 170 = .ok (.aload_n 0, 1) := by decide +kernel
theorem dX10_solve_171 : decode cX10_solve 171 = .ok (.iload 6, 2) := by decide +kernel
theorem dX10_solve_173 : decode cX10_solve 173 = .ok (.ifCond .ne 7, 3) := by decide +kernel
theorem dX10_solve_176 : decode cX10_solve 176 = .ok (.iconst 0, 1) := by decide +kernel
theorem dX10_solve_177 : decode cX10_solve 177 = .ok (.goto 4, 3) := by decide +kernel
theorem dX10_solve_180 : decode cX10_solve 180 = .ok (.iconst 1, 1) := by decide +kernel
theorem dX10_solve_181 : decode cX10_solve 181 = .ok (.invokevirtual 236, 3) := by decide +kernel
theorem dX10_solve_184 : decode cX10_solve 184 = .ok (.invokevirtual 255, 3) := by decide +kernel
theorem dX10_solve_187 : decode cX10_solve 187 = .ok (.goto 96, 3) := by decide +kernel
theorem dX10_solve_190 : decode cX10_solve 190 = .ok (.aload_n 0, 1) := by decide +kernel
theorem dX10_solve_191 : decode cX10_solve 191 = .ok (.aload_n 0, 1) := by decide +kernel
theorem dX10_solve_192 : decode cX10_solve 192 = .ok (.getfield 13, 3) := by decide +kernel
theorem dX10_solve_195 : decode cX10_solve 195 = .ok (.iload_n 1, 1) := by decide +kernel
theorem dX10_solve_196 : decode cX10_solve 196 = .ok (.iaload, 1) := by decide +kernel
theorem dX10_solve_197 : decode cX10_solve 197 = .ok (.iload_n 2, 1) := by decide +kernel
theorem dX10_solve_198 : decode cX10_solve 198 = .ok (.iload_n 3, 1) := by decide +kernel
theorem dX10_solve_199 : decode cX10_solve 199 = .ok (.invokevirtual 270, 3) := by decide +kernel
theorem dX10_solve_202 : decode cX10_solve 202 = .ok (.goto 81, 3) := by decide +kernel
theorem dX10_solve_205 : decode cX10_solve 205 = .ok (.aload_n 0, 1) := by decide +kernel
theorem dX10_solve_206 : decode cX10_solve 206 = .ok (.iload 6, 2) := by decide +kernel
theorem dX10_solve_208 : decode cX10_solve 208 = .ok (.iload_n 1, 1) := by decide +kernel
theorem dX10_solve_209 : decode cX10_solve 209 = .ok (.iload_n 2, 1) := by decide +kernel
theorem dX10_solve_210 : decode cX10_solve 210 = .ok (.iload_n 3, 1) := by decide +kernel
theorem dX10_solve_211 : decode cX10_solve 211 = .ok (.invokevirtual 274, 3) := by decide +kernel
theorem dX10_solve_214 : decode cX10_solve 214 = .ok (.goto 69, 3) := by decide +kernel
theorem dX10_solve_217 : decode cX10_solve 217 = .ok (.aload_n 0, 1) := by decide +kernel
theorem dX10_solve_218 : decode cX10_solve 218 = .ok (.invokevirtual 258, 3) := by decide +kernel
theorem dX10_solve_221 : decode cX10_solve 221 = .ok (.istore 7, 2) := by decide +kernel
theorem dX10_solve_223 : decode cX10_solve 223 = .ok (.aload_n 0, 1) := by decide +kernel
theorem dX10_solve_224 : decode cX10_solve 224 = .ok (.aload_n 0, 1) := by decide +kernel
theorem dX10_solve_225 : decode cX10_solve 225 = .ok (.getfield 13, 3) := by decide +kernel
theorem dX10_solve_228 : decode cX10_solve 228 = .ok (.iload_n 1, 1) := by decide +kernel
theorem dX10_solve_229 : decode cX10_solve 229 = .ok (.iaload, 1) := by decide +kernel
theorem dX10_solve_230 : decode cX10_solve 230 = .ok (.iload_n 2, 1) := by decide +kernel
theorem dX10_solve_231 : decode cX10_solve 231 = .ok (.iload 7, 2) := by decide +kernel
theorem dX10_solve_233 : decode cX10_solve 233 = .ok (.iload 7, 2) := by decide +kernel
theorem dX10_solve_235 : decode cX10_solve 235 = .ok (.iload_n 3, 1) := by decide +kernel
theorem dX10_solve_236 : decode cX10_solve 236 = .ok (.invokevirtual 267, 3) := by decide +kernel
theorem dX10_solve_239 : decode cX10_solve 239 = .ok (.goto 44, 3) := by decide +kernel
theorem dX10_solve_242 : decode cX10_solve 242 = .ok (.aload_n 0, 1) := by decide +kernel
theorem dX10_solve_243 : decode cX10_solve 243 = .ok (.invokevirtual 258, 3) := by decide +kernel
theorem dX10_solve_246 : decode cX10_solve 246 = .ok (.istore 8, 2) := by decide +kernel
theorem dX10_solve_248 : decode cX10_solve 248 = .ok (.aload_n 0, 1) := by decide +kernel
theorem dX10_solve_249 : decode cX10_solve 249 = .ok (.aload_n 0, 1) := by decide +kernel
theorem dX10_solve_250 : decode cX10_solve 250 = .ok (.getfield 13, 3) := by decide +kernel
theorem dX10_solve_253 : decode cX10_solve 253 = .ok (.iload_n 1, 1) := by decide +kernel
theorem dX10_solve_254 : decode cX10_solve 254 = .ok (.iaload, 1) := by decide +kernel
theorem dX10_solve_255 : decode cX10_solve 255 = .ok (.aload_n 0, 1) := by decide +kernel
theorem dX10_solve_256 : decode cX10_solve 256 = .ok (.iload_n 3, 1) := by decide +kernel
theorem dX10_solve_257 : decode cX10_solve 257 = .ok (.iload 4, 2) := by decide +kernel
theorem dX10_solve_259 : decode cX10_solve 259 = .ok (.iload_n 2, 1) := by decide +kernel
theorem dX10_solve_260 : decode cX10_solve 260 = .ok (.invokevirtual 264, 3) := by decide +kernel
theorem dX10_solve_263 : decode cX10_solve 263 = .ok (.iload 8, 2) := by decide +kernel
theorem dX10_solve_265 : decode cX10_solve 265 = .ok (.iload 8, 2) := by decide +kernel
theorem dX10_solve_267 : decode cX10_solve 267 = .ok (.iload 5, 2) := by decide +kernel
theorem dX10_solve_269 : decode cX10_solve 269 = .ok (.invokevirtual 267, 3) := by decide +kernel
theorem dX10_solve_272 : decode cX10_solve 272 = .ok (.goto 11, 3) := by decide +kernel
theorem dX10_solve_275 : decode cX10_solve 275 = .ok (.aload_n 0, 1) := by decide +kernel
theorem dX10_solve_276 : decode cX10_solve 276 = .ok (.iload 6, 2) := by decide +kernel
theorem dX10_solve_278 : decode cX10_solve 278 = .ok (.iload_n 1, 1) := by decide +kernel
theorem dX10_solve_279 : decode cX10_solve 279 = .ok (.iload_n 2, 1) := by decide +kernel
theorem dX10_solve_280 : decode cX10_solve 280 = .ok (.invokevirtual 278, 3) := by decide +kernel
theorem dX10_solve_283 : decode cX10_solve 283 = .ok (.return_, 1) := by decide +kernel
theorem dX10_solveTwo_0 : decode cX10_solveTwo 0 = .ok (.aload_n 0, 1) := by decide +kernel
theorem dX10_solveTwo_1 : decode cX10_solveTwo 1 = .ok (.getfield 99, 3) := by decide +kernel
theorem dX10_solveTwo_4 : decode cX10_solveTwo 4 = .ok (.aload_n 0, 1) := by decide +kernel
theorem dX10_solveTwo_5 : decode cX10_solveTwo 5 = .ok (.getfield 249, 3) := by decide +kernel
theorem dX10_solveTwo_8 : decode cX10_solveTwo 8 = .ok (.iaload, 1) := by decide +kernel
theorem dX10_solveTwo_9 : decode cX10_solveTwo 9 = .ok (.istore 4, 2) := by decide +kernel
theorem dX10_solveTwo_11 : decode cX10_solveTwo 11 = .ok (.aload_n 0, 1) := by decide +kernel
theorem dX10_solveTwo_12 : decode cX10_solveTwo 12 = .ok (.getfield 102, 3) := by decide +kernel
theorem dX10_solveTwo_15 : decode cX10_solveTwo 15 = .ok (.aload_n 0, 1) := by decide +kernel
theorem dX10_solveTwo_16 : decode cX10_solveTwo 16 = .ok (.getfield 249, 3) := by decide +kernel
theorem dX10_solveTwo_19 : decode cX10_solveTwo 19 = .ok (.iaload, 1) := by decide +kernel
theorem dX10_solveTwo_20 : decode cX10_solveTwo 20 = .ok (.istore 5, 2) := by decide +kernel
theorem dX10_solveTwo_22 : decode cX10_solveTwo 22 = .ok (.aload_n 0, 1) := by decide +kernel
theorem dX10_solveTwo_23 : decode cX10_solveTwo 23 = .ok (.getfield 105, 3) := by decide +kernel
theorem dX10_solveTwo_26 : decode cX10_solveTwo 26 = .ok (.aload_n 0, 1) := by decide +kernel
theorem dX10_solveTwo_27 : decode cX10_solveTwo 27 = .ok (.getfield 249, 3) := by decide +kernel
theorem dX10_solveTwo_30 : decode cX10_solveTwo 30 = .ok (.iaload, 1) := by decide +kernel
theorem dX10_solveTwo_31 : decode cX10_solveTwo 31 = .ok (.istore 6, 2) := by decide +kernel
theorem dX10_solveTwo_33 : decode cX10_solveTwo 33 = .ok (.aload_n 0, 1) := by decide +kernel
theorem dX10_solveTwo_34 : decode cX10_solveTwo 34 = .ok (.invokevirtual 258, 3) := by decide +kernel
theorem dX10_solveTwo_37 : decode cX10_solveTwo 37 = .ok (.istore 7, 2) := by decide +kernel
theorem dX10_solveTwo_39 : decode cX10_solveTwo 39 = .ok (.iload_n 1, 1) := by decide +kernel
theorem dX10_solveTwo_40 : decode cX10_solveTwo 40 = .ok (.iconst 4, 1) := by decide +kernel
theorem dX10_solveTwo_41 : decode cX10_solveTwo 41 = .ok (.if_icmp .ne 62, 3) := by decide +kernel
theorem dX10_solveTwo_44 : decode cX10_solveTwo 44 = .ok (.aload_n 0, 1) := by decide +kernel
theorem dX10_solveTwo_45 : decode cX10_solveTwo 45 = .ok (.invokevirtual 258, 3) := by decide +kernel
theorem dX10_solveTwo_48 : decode cX10_solveTwo 48 = .ok (.istore 8, 2) := by decide +kernel
theorem dX10_solveTwo_50 : decode cX10_solveTwo 50 = .ok (.aload_n 0, 1) := by decide +kernel
theorem dX10_solveTwo_51 : decode cX10_solveTwo 51 = .ok (.invokevirtual 258, 3) := by decide +kernel
theorem dX10_solveTwo_54 : decode cX10_solveTwo 54 = .ok (.istore 9, 2) := by decide +kernel
theorem dX10_solveTwo_56 : decode cX10_solveTwo 56 = .ok (.aload_n 0, 1) := by decide +kernel
theorem dX10_solveTwo_57 : decode cX10_solveTwo 57 = .ok (.aload_n 0, 1) := by decide +kernel
theorem dX10_solveTwo_58 : decode cX10_solveTwo 58 = .ok (.getfield 13, 3) := by decide +kernel
theorem dX10_solveTwo_61 : decode cX10_solveTwo 61 = .ok (.iload_n 2, 1) := by decide +kernel
theorem dX10_solveTwo_62 : decode cX10_solveTwo 62 = .ok (.iaload, 1) := by decide +kernel
theorem dX10_solveTwo_63 : decode cX10_solveTwo 63 = .ok (.iload_n 3, 1) := by decide +kernel
theorem dX10_solveTwo_64 : decode cX10_solveTwo 64 = .ok (.aload_n 0, 1) := by decide +kernel
theorem dX10_solveTwo_65 : decode cX10_solveTwo 65 = .ok (.iload 8, 2) := by decide +kernel
theorem dX10_solveTwo_67 : decode cX10_solveTwo 67 = .ok (.iload 5, 2) := by decide +kernel
theorem dX10_solveTwo_69 : decode cX10_solveTwo 69 = .ok (.iload 4, 2) := by decide +kernel
theorem dX10_solveTwo_71 : decode cX10_solveTwo 71 = .ok (.iload 9, 2) := by decide +kernel
theorem dX10_solveTwo_73 : decode cX10_solveTwo 73 = .ok (.invokevirtual 261, 3) := by decide +kernel
theorem dX10_solveTwo_76 : decode cX10_solveTwo 76 = .ok (.iload 7, 2) := by decide +kernel
theorem dX10_solveTwo_78 : decode cX10_solveTwo 78 = .ok (.iload 6, 2) := by decide +kernel
theorem dX10_solveTwo_80 : decode cX10_solveTwo 80 = .ok (.invokevirtual 267, 3) := by decide +kernel
theorem dX10_solveTwo_83 : decode cX10_solveTwo 83 = .ok (.aload_n 0, 1) := by decide +kernel
theorem dX10_solveTwo_84 : decode cX10_solveTwo 84 = .ok (.aload_n 0, 1) := by decide +kernel
theorem dX10_solveTwo_85 : decode cX10_solveTwo 85 = .ok (.getfield 16, 3) := by decide +kernel
theorem dX10_solveTwo_88 : decode cX10_solveTwo 88 = .ok (.iload_n 2, 1) := by decide +kernel
theorem dX10_solveTwo_89 : decode cX10_solveTwo 89 = .ok (.iaload, 1) := by decide +kernel
theorem dX10_solveTwo_90 : decode cX10_solveTwo 90 = .ok (.iload_n 3, 1) := by decide +kernel
theorem dX10_solveTwo_91 : decode cX10_solveTwo 91 = .ok (.iload 8, 2) := by decide +kernel
theorem dX10_solveTwo_93 : decode cX10_solveTwo 93 = .ok (.iload 9, 2) := by decide +kernel
theorem dX10_solveTwo_95 : decode cX10_solveTwo 95 = .ok (.iload 7, 2) := by decide +kernel
theorem dX10_solveTwo_97 : decode cX10_solveTwo 97 = .ok (.invokevirtual 267, 3) := by decide +kernel
theorem dX10_solveTwo_100 : decode cX10_solveTwo 100 = .ok (.goto 182, 3) := by decide +kernel
theorem dX10_solveTwo_103 : decode cX10_solveTwo 103 = .ok (.iload_n 1, 1) := by decide +kernel
theorem dX10_solveTwo_104 : decode cX10_solveTwo 104 = .ok (.bipush 8, 2) := by decide +kernel
theorem dX10_solveTwo_106 : decode cX10_solveTwo 106 = .ok (.if_icmp .ne 53, 3) := by decide +kernel
theorem dX10_solveTwo_109 : decode cX10_solveTwo 109 = .ok (.aload_n 0, 1) := by decide +kernel
theorem dX10_solveTwo_110 : decode cX10_solveTwo 110 = .ok (.invokevirtual 258, 3) := by decide +kernel
theorem dX10_solveTwo_113 : decode cX10_solveTwo 113 = .ok (.istore 8, 2) := by decide +kernel
theorem dX10_solveTwo_115 : decode cX10_solveTwo 115 = .ok (.aload_n 0, 1) := by decide +kernel
theorem dX10_solveTwo_116 : decode cX10_solveTwo 116 = .ok (.aload_n 0, 1) := by decide +kernel
theorem dX10_solveTwo_117 : decode cX10_solveTwo 117 = .ok (.getfield 13, 3) := by decide +kernel
theorem dX10_solveTwo_120 : decode cX10_solveTwo 120 = .ok (.iload_n 2, 1) := by decide +kernel
theorem dX10_solveTwo_121 : decode cX10_solveTwo 121 = .ok (.iaload, 1) := by decide +kernel
theorem dX10_solveTwo_122 : decode cX10_solveTwo 122 = .ok (.iload_n 3, 1) := by decide +kernel
theorem dX10_solveTwo_123 : decode cX10_solveTwo 123 = .ok (.iload 8, 2) := by decide +kernel
theorem dX10_solveTwo_125 : decode cX10_solveTwo 125 = .ok (.iload 7, 2) := by decide +kernel
theorem dX10_solveTwo_127 : decode cX10_solveTwo 127 = .ok (.iload 6, 2) := by decide +kernel
theorem dX10_solveTwo_129 : decode cX10_solveTwo 129 = .ok (.invokevirtual 267, 3) := by decide +kernel
theorem dX10_solveTwo_132 : decode cX10_solveTwo 132 = .ok (.aload_n 0, 1) := by decide +kernel
theorem dX10_solveTwo_133 : decode cX10_solveTwo 133 = .ok (.aload_n 0, 1) := by decide +kernel
theorem dX10_solveTwo_134 : decode cX10_solveTwo 134 = .ok (.getfield 16, 3) := by decide +kernel
theorem dX10_solveTwo_137 : decode cX10_solveTwo 137 = .ok (.iload_n 2, 1) := by decide +kernel
theorem dX10_solveTwo_138 : decode cX10_solveTwo 138 = .ok (.iaload, 1) := by decide +kernel
theorem dX10_solveTwo_139 : decode cX10_solveTwo 139 = .ok (.aload_n 0, 1) := by decide +kernel
theorem dX10_solveTwo_140 : decode cX10_solveTwo 140 = .ok (.iload 8, 2) := by decide +kernel
theorem dX10_solveTwo_142 : decode cX10_solveTwo 142 = .ok (.iconst (-1), 1) := by decide +kernel
theorem dX10_solveTwo_143 : decode cX10_solveTwo 143 = .ok (.iload_n 3, 1) := by decide +kernel
theorem dX10_solveTwo_144 : decode cX10_solveTwo 144 = .ok (.invokevirtual 264, 3) := by decide +kernel
theorem dX10_solveTwo_147 : decode cX10_solveTwo 147 = .ok (.iload 4, 2) := by decide +kernel
theorem dX10_solveTwo_149 : decode cX10_solveTwo 149 = .ok (.iload 5, 2) := by decide +kernel
theorem dX10_solveTwo_151 : decode cX10_solveTwo 151 = .ok (.iload 7, 2) := by decide +kernel
theorem dX10_solveTwo_153 : decode cX10_solveTwo 153 = .ok (.invokevirtual 267, 3) := by decide +kernel
theorem dX10_solveTwo_156 : decode cX10_solveTwo 156 = .ok (.goto 126, 3) := by decide +kernel
theorem dX10_solveTwo_159 : decode cX10_solveTwo 159 = .ok (.iload_n 1, 1) := by decide +kernel
theorem dX10_solveTwo_160 : decode cX10_solveTwo 160 = .ok (.bipush 7, 2) := by decide +kernel
theorem dX10_solveTwo_162 : decode cX10_solveTwo 162 = .ok (.if_icmp .ne 60, 3) := by decide +kernel
theorem dX10_solveTwo_165 : decode cX10_solveTwo 165 = .ok (.aload_n 0, 1) := by decide +kernel
theorem dX10_solveTwo_166 : decode cX10_solveTwo 166 = .ok (.aload_n 0, 1) := by decide +kernel
theorem dX10_solveTwo_167 : decode cX10_solveTwo 167 = .ok (.getfield 13, 3) := by decide +kernel
theorem dX10_solveTwo_170 : decode cX10_solveTwo 170 = .ok (.iload_n 2, 1) := by decide +kernel
theorem dX10_solveTwo_171 : decode cX10_solveTwo 171 = .ok (.iaload, 1) := by decide +kernel
theorem dX10_solveTwo_172 : decode cX10_solveTwo 172 = .ok (.iload_n 3, 1) := by decide +kernel
theorem dX10_solveTwo_173 : decode cX10_solveTwo 173 = .ok (.aload_n 0, 1) := by decide +kernel
theorem dX10_solveTwo_174 : decode cX10_solveTwo 174 = .ok (.iconst 1, 1) := by decide +kernel
theorem dX10_solveTwo_175 : decode cX10_solveTwo 175 = .ok (.invokevirtual 236, 3) := by decide +kernel
theorem dX10_solveTwo_178 : decode cX10_solveTwo 178 = .ok (.iload 7, 2) := by decide +kernel
theorem dX10_solveTwo_180 : decode cX10_solveTwo 180 = .ok (.iload 6, 2) := by decide +kernel
theorem dX10_solveTwo_182 : decode cX10_solveTwo 182 = .ok (.invokevirtual 267, 3) := by decide +kernel
theorem dX10_solveTwo_185 : decode cX10_solveTwo 185 = .ok (.aload_n 0, 1) := by decide +kernel
theorem dX10_solveTwo_186 : decode cX10_solveTwo 186 = .ok (.aload_n 0, 1) := by decide +kernel
theorem dX10_solveTwo_187 : decode cX10_solveTwo 187 = .ok (.getfield 16, 3) := by decide +kernel
theorem dX10_solveTwo_190 : decode cX10_solveTwo 190 = .ok (.iload_n 2, 1) := by decide +kernel
theorem dX10_solveTwo_191 : decode cX10_solveTwo 191 = .ok (.iaload, 1) := by decide +kernel
theorem dX10_solveTwo_192 : decode cX10_solveTwo 192 = .ok (.iload_n 3, 1) := by decide +kernel
theorem dX10_solveTwo_193 : decode cX10_solveTwo 193 = .ok (.iload 4, 2) := by decide +kernel
theorem dX10_solveTwo_195 : decode cX10_solveTwo 195 = .ok (.iload 5, 2) := by decide +kernel
theorem dX10_solveTwo_197 : decode cX10_solveTwo 197 = .ok (.iload 7, 2) := by decide +kernel
theorem dX10_solveTwo_199 : decode cX10_solveTwo 199 = .ok (.invokevirtual 267, 3) := by decide +kernel
theorem dX10_solveTwo_202 : decode cX10_solveTwo 202 = .ok (.aload_n 0, 1) := by decide +kernel
theorem dX10_solveTwo_203 : decode cX10_solveTwo 203 = .ok (.aload_n 0, 1) := by decide +kernel
theorem dX10_solveTwo_204 : decode cX10_solveTwo 204 = .ok (.getfield 19, 3) := by decide +kernel
theorem dX10_solveTwo_207 : decode cX10_solveTwo 207 = .ok (.iload_n 2, 1) := by decide +kernel
theorem dX10_solveTwo_208 : decode cX10_solveTwo 208 = .ok (.iaload, 1) := by decide +kernel
theorem dX10_solveTwo_209 : decode cX10_solveTwo 209 = .ok (.iload_n 3, 1) := by decide +kernel
theorem dX10_solveTwo_210 : decode cX10_solveTwo 210 = .ok (.iload 4, 2) := by decide +kernel
theorem dX10_solveTwo_212 : decode cX10_solveTwo 212 = .ok (.iload 5, 2) := by decide +kernel
theorem dX10_solveTwo_214 : decode cX10_solveTwo 214 = .ok (.iload 7, 2) := by decide +kernel
theorem dX10_solveTwo_216 : decode cX10_solveTwo 216 = .ok (.invokevirtual 267, 3) := by decide +kernel
theorem dX10_solveTwo_219 : decode cX10_solveTwo 219 = .ok (.goto 63, 3) := by decide +kernel
theorem dX10_solveTwo_222 : decode cX10_solveTwo 222 = .ok (.aload_n 0, 1) := by decide +kernel
theorem dX10_solveTwo_223 : decode cX10_solveTwo 223 = .ok (.iload 4, 2) := by decide +kernel
theorem dX10_solveTwo_225 : decode cX10_solveTwo 225 = .ok (.aload_n 0, 1) := by decide +kernel
theorem dX10_solveTwo_226 : decode cX10_solveTwo 226 = .ok (.iload_n 1, 1) := by decide +kernel
theorem dX10_solveTwo_227 : decode cX10_solveTwo 227 = .ok (.iconst 5, 1) := by decide +kernel
theorem dX10_solveTwo_228 : decode cX10_solveTwo 228 = .ok (.if_icmp .ne 7, 3) := by decide +kernel
theorem dX10_solveTwo_231 : decode cX10_solveTwo 231 = .ok (.iconst 0, 1) := by decide +kernel
theorem dX10_solveTwo_232 : decode cX10_solveTwo 232 = .ok (.goto 4, 3) := by decide +kernel
theorem dX10_solveTwo_235 : decode cX10_solveTwo 235 = .ok (.iconst 1, 1) := by decide +kernel
theorem dX10_solveTwo_236 : decode cX10_solveTwo 236 = .ok (.invokevirtual 236, 3) := by decide +kernel
theorem dX10_solveTwo_239 : decode cX10_solveTwo 239 = .ok (.invokevirtual 255, 3) := by decide +kernel
theorem dX10_solveTwo_242 : decode cX10_solveTwo 242 = .ok (.aload_n 0, 1) := by decide +kernel
theorem dX10_solveTwo_243 : decode cX10_solveTwo 243 = .ok (.aload_n 0, 1) := by decide +kernel
theorem dX10_solveTwo_244 : decode cX10_solveTwo 244 = .ok (.getfield 13, 3) := by decide +kernel
theorem dX10_solveTwo_247 : decode cX10_solveTwo 247 = .ok (.iload_n 2, 1) := by decide +kernel
theorem dX10_solveTwo_248 : decode cX10_solveTwo 248 = .ok (.iaload, 1) := by decide +kernel
theorem dX10_solveTwo_249 : decode cX10_solveTwo 249 = .ok (.iload_n 3, 1) := by decide +kernel
theorem dX10_solveTwo_250 : decode cX10_solveTwo 250 = .ok (.aload_n 0, 1) := by decide +kernel
theorem dX10_solveTwo_251 : decode cX10_solveTwo 251 = .ok (.iconst 0, 1) := by decide +kernel
theorem dX10_solveTwo_252 : decode cX10_solveTwo 252 = .ok (.invokevirtual 236, 3) := by decide +kernel
theorem dX10_solveTwo_255 : decode cX10_solveTwo 255 = .ok (.iload 7, 2) := by decide +kernel
theorem dX10_solveTwo_257 : decode cX10_solveTwo 257 = .ok (.iload 6, 2) := by decide +kernel
theorem dX10_solveTwo_259 : decode cX10_solveTwo 259 = .ok (.invokevirtual 267, 3) := by decide +kernel
theorem dX10_solveTwo_262 : decode cX10_solveTwo 262 = .ok (.aload_n 0, 1) := by decide +kernel
theorem dX10_solveTwo_263 : decode cX10_solveTwo 263 = .ok (.aload_n 0, 1) := by decide +kernel
theorem dX10_solveTwo_264 : decode cX10_solveTwo 264 = .ok (.getfield 16, 3) := by decide +kernel
theorem dX10_solveTwo_267 : decode cX10_solveTwo 267 = .ok (.iload_n 2, 1) := by decide +kernel
theorem dX10_solveTwo_268 : decode cX10_solveTwo 268 = .ok (.iaload, 1) := by decide +kernel
theorem dX10_solveTwo_269 : decode cX10_solveTwo 269 = .ok (.iload_n 3, 1) := by decide +kernel
theorem dX10_solveTwo_270 : decode cX10_solveTwo 270 = .ok (.aload_n 0, 1) := by decide +kernel
theorem dX10_solveTwo_271 : decode cX10_solveTwo 271 = .ok (.iconst 0, 1) := by decide +kernel
theorem dX10_solveTwo_272 : decode cX10_solveTwo 272 = .ok (.invokevirtual 236, 3) := by decide +kernel
theorem dX10_solveTwo_275 : decode cX10_solveTwo 275 = .ok (.iload 5, 2) := by decide +kernel
theorem dX10_solveTwo_277 : decode cX10_solveTwo 277 = .ok (.iload 7, 2) := by decide +kernel
theorem dX10_solveTwo_279 : decode cX10_solveTwo 279 = .ok (.invokevirtual 267, 3) := by decide +kernel
theorem dX10_solveTwo_282 : decode cX10_solveTwo 282 = .ok (.return_, 1) := by decide +kernel
theorem dX10_numberLetters_0 : decode cX10_numberLetters 0 = .ok (.sipush 640, 3) := by decide +kernel
theorem dX10_numberLetters_3 : decode cX10_numberLetters 3 = .ok (.iconst 1, 1) := by decide +kernel
theorem dX10_numberLetters_4 : decode cX10_numberLetters 4 = .ok (.aload_n 0, 1) := by decide +kernel
theorem dX10_numberLetters_5 : decode cX10_numberLetters 5 = .ok (.getfield 230, 3) := by decide +kernel
theorem dX10_numberLetters_8 : decode cX10_numberLetters 8 = .ok (.isub, 1) := by decide +kernel
theorem dX10_numberLetters_9 : decode cX10_numberLetters 9 = .ok (.imul, 1) := by decide +kernel
theorem dX10_numberLetters_10 : decode cX10_numberLetters 10 = .ok (.istore_n 2, 1) := by decide +kernel
theorem dX10_numberLetters_11 : decode cX10_numberLetters 11 = .ok (.iload_n 2, 1) := by decide +kernel
theorem dX10_numberLetters_12 : decode cX10_numberLetters 12 = .ok (.istore_n 3, 1) := by decide +kernel
theorem dX10_numberLetters_13 : decode cX10_numberLetters 13 = .ok (.iload_n 3, 1) := by decide +kernel
theorem dX10_numberLetters_14 : decode cX10_numberLetters 14 = .ok (.iload_n 2, 1) := by decide +kernel
theorem dX10_numberLetters_15 : decode cX10_numberLetters 15 = .ok (.aload_n 0, 1) := by decide +kernel
theorem dX10_numberLetters_16 : decode cX10_numberLetters 16 = .ok (.getfield 233, 3) := by decide +kernel
theorem dX10_numberLetters_19 : decode cX10_numberLetters 19 = .ok (.iadd, 1) := by decide +kernel
theorem dX10_numberLetters_20 : decode cX10_numberLetters 20 = .ok (.if_icmp .ge 16, 3) := by decide +kernel
theorem dX10_numberLetters_23 : decode cX10_numberLetters 23 = .ok (.aload_n 0, 1) := by decide +kernel
theorem dX10_numberLetters_24 : decode cX10_numberLetters 24 = .ok (.getfield 89, 3) := by decide +kernel
theorem dX10_numberLetters_27 : decode cX10_numberLetters 27 = .ok (.iload_n 3, 1) := by decide +kernel
theorem dX10_numberLetters_28 : decode cX10_numberLetters 28 = .ok (.iconst 0, 1) := by decide +kernel
theorem dX10_numberLetters_29 : decode cX10_numberLetters 29 = .ok (.bastore, 1) := by decide +kernel
theorem dX10_numberLetters_30 : decode cX10_numberLetters 30 = .ok (.iinc 3 1, 3) := by decide +kernel
theorem dX10_numberLetters_33 : decode cX10_numberLetters 33 = .ok (.goto (-20), 3) := by decide +kernel
theorem dX10_numberLetters_36 : decode cX10_numberLetters 36 = .ok (.iconst 0, 1) := by decide +kernel
theorem dX10_numberLetters_37 : decode cX10_numberLetters 37 = .ok (.istore_n 3, 1) := by decide +kernel
theorem dX10_numberLetters_38 : decode cX10_numberLetters 38 = .ok (.iconst 0, 1) := by decide +kernel
theorem dX10_numberLetters_39 : decode cX10_numberLetters 39 = .ok (.istore 4, 2) := by decide +kernel
theorem dX10_numberLetters_41 : decode cX10_numberLetters 41 = .ok (.aload_n 0, 1) := by decide +kernel
theorem dX10_numberLetters_42 : decode cX10_numberLetters 42 = .ok (.getfield 83, 3) := by decide +kernel
theorem dX10_numberLetters_45 : decode cX10_numberLetters 45 = .ok (.iload_n 3, 1) := by decide +kernel
theorem dX10_numberLetters_46 : decode cX10_numberLetters 46 = .ok (.iload_n 1, 1) := by decide +kernel
theorem dX10_numberLetters_47 : decode cX10_numberLetters 47 = .ok (.iastore, 1) := by decide +kernel
theorem dX10_numberLetters_48 : decode cX10_numberLetters 48 = .ok (.iinc 3 1, 3) := by decide +kernel
theorem dX10_numberLetters_51 : decode cX10_numberLetters 51 = .ok (.iload_n 3, 1) := by decide +kernel
theorem dX10_numberLetters_52 : decode cX10_numberLetters 52 = .ok (.ifCond .le 108, 3) := by decide +kernel
theorem dX10_numberLetters_55 : decode cX10_numberLetters 55 = .ok (.iinc 3 (-1), 3) := by decide +kernel
theorem dX10_numberLetters_58 : decode cX10_numberLetters 58 = .ok (.aload_n 0, 1) := by decide +kernel
theorem dX10_numberLetters_59 : decode cX10_numberLetters 59 = .ok (.aload_n 0, 1) := by decide +kernel
theorem dX10_numberLetters_60 : decode cX10_numberLetters 60 = .ok (.getfield 83, 3) := by decide +kernel
theorem dX10_numberLetters_63 : decode cX10_numberLetters 63 = .ok (.iload_n 3, 1) := by decide +kernel
theorem dX10_numberLetters_64 : decode cX10_numberLetters 64 = .ok (.iaload, 1) := by decide +kernel
theorem dX10_numberLetters_65 : decode cX10_numberLetters 65 = .ok (.invokevirtual 239, 3) := by decide +kernel
theorem dX10_numberLetters_68 : decode cX10_numberLetters 68 = .ok (.istore 5, 2) := by decide +kernel
theorem dX10_numberLetters_70 : decode cX10_numberLetters 70 = .ok (.aload_n 0, 1) := by decide +kernel
theorem dX10_numberLetters_71 : decode cX10_numberLetters 71 = .ok (.getfield 89, 3) := by decide +kernel
theorem dX10_numberLetters_74 : decode cX10_numberLetters 74 = .ok (.iload 5, 2) := by decide +kernel
theorem dX10_numberLetters_76 : decode cX10_numberLetters 76 = .ok (.baload, 1) := by decide +kernel
theorem dX10_numberLetters_77 : decode cX10_numberLetters 77 = .ok (.ifCond .ne 80, 3) := by decide +kernel
theorem dX10_numberLetters_80 : decode cX10_numberLetters 80 = .ok (.aload_n 0, 1) := by decide +kernel
theorem dX10_numberLetters_81 : decode cX10_numberLetters 81 = .ok (.getfield 89, 3) := by decide +kernel
theorem dX10_numberLetters_84 : decode cX10_numberLetters 84 = .ok (.iload 5, 2) := by decide +kernel
theorem dX10_numberLetters_86 : decode cX10_numberLetters 86 = .ok (.iconst 1, 1) := by decide +kernel
theorem dX10_numberLetters_87 : decode cX10_numberLetters 87 = .ok (.bastore, 1) := by decide +kernel
theorem dX10_numberLetters_88 : decode cX10_numberLetters 88 = .ok (.aload_n 0, 1) := by decide +kernel
theorem dX10_numberLetters_89 : decode cX10_numberLetters 89 = .ok (.getfield 67, 3) := by decide +kernel
theorem dX10_numberLetters_92 : decode cX10_numberLetters 92 = .ok (.iload 5, 2) := by decide +kernel
theorem dX10_numberLetters_94 : decode cX10_numberLetters 94 = .ok (.iaload, 1) := by decide +kernel
theorem dX10_numberLetters_95 : decode cX10_numberLetters 95 = .ok (.iconst 3, 1) := by decide +kernel
theorem dX10_numberLetters_96 : decode cX10_numberLetters 96 = .ok (.if_icmp .ne 15, 3) := by decide +kernel
theorem dX10_numberLetters_99 : decode cX10_numberLetters 99 = .ok (.aload_n 0, 1) := by decide +kernel
theorem dX10_numberLetters_100 : decode cX10_numberLetters 100 = .ok (.getfield 76, 3) := by decide +kernel
theorem dX10_numberLetters_103 : decode cX10_numberLetters 103 = .ok (.iload 5, 2) := by decide +kernel
theorem dX10_numberLetters_105 : decode cX10_numberLetters 105 = .ok (.iload 4, 2) := by decide +kernel
theorem dX10_numberLetters_107 : decode cX10_numberLetters 107 = .ok (.iastore, 1) := by decide +kernel
theorem dX10_numberLetters_108 : decode cX10_numberLetters 108 = .ok (.iinc 4 1, 3) := by decide +kernel
theorem dX10_numberLetters_111 : decode cX10_numberLetters 111 = .ok (.iconst 3, 1) := by decide +kernel
theorem dX10_numberLetters_112 : decode cX10_numberLetters 112 = .ok (.istore 6, 2) := by decide +kernel
theorem dX10_numberLetters_114 : decode cX10_numberLetters 114 = .ok (.iload 6, 2) := by decide +kernel
theorem dX10_numberLetters_116 : decode cX10_numberLetters 116 = .ok (.ifCond .lt 41, 3) := by decide +kernel
theorem dX10_numberLetters_119 : decode cX10_numberLetters 119 = .ok (.aload_n 0, 1) := by decide +kernel
theorem dX10_numberLetters_120 : decode cX10_numberLetters 120 = .ok (.getfield 67, 3) := by decide +kernel
theorem dX10_numberLetters_123 : decode cX10_numberLetters 123 = .ok (.iload 5, 2) := by decide +kernel
theorem dX10_numberLetters_125 : decode cX10_numberLetters 125 = .ok (.iaload, 1) := by decide +kernel
theorem dX10_numberLetters_126 : decode cX10_numberLetters 126 = .ok (.iconst 2, 1) := by decide +kernel
theorem dX10_numberLetters_127 : decode cX10_numberLetters 127 = .ok (.if_icmp .ne 30, 3) := by decide +kernel
theorem dX10_numberLetters_130 : decode cX10_numberLetters 130 = .ok (.aload_n 0, 1) := by decide +kernel
theorem dX10_numberLetters_131 : decode cX10_numberLetters 131 = .ok (.getfield 83, 3) := by decide +kernel
theorem dX10_numberLetters_134 : decode cX10_numberLetters 134 = .ok (.iload_n 3, 1) := by decide +kernel
theorem dX10_numberLetters_135 : decode cX10_numberLetters 135 = .ok (.aload_n 0, 1) := by decide +kernel
theorem dX10_numberLetters_136 : decode cX10_numberLetters 136 = .ok (.getfield 73, 3) := by decide +kernel
theorem dX10_numberLetters_139 : decode cX10_numberLetters 139 = .ok (.iconst 4, 1) := by decide +kernel
theorem dX10_numberLetters_140 : decode cX10_numberLetters 140 = .ok (.iload 5, 2) := by decide +kernel
theorem dX10_numberLetters_142 : decode cX10_numberLetters 142 = .ok (.imul, 1) := by decide +kernel
theorem dX10_numberLetters_143 : decode cX10_numberLetters 143 = .ok (.iload 6, 2) := by decide +kernel
theorem dX10_numberLetters_145 : decode cX10_numberLetters 145 = .ok (.iadd, 1) := by decide +kernel
theorem dX10_numberLetters_146 : decode cX10_numberLetters 146 = .ok (.iaload, 1) := by decide +kernel
theorem dX10_numberLetters_147 : decode cX10_numberLetters 147 = .ok (.iastore, 1) := by decide +kernel
theorem dX10_numberLetters_148 : decode cX10_numberLetters 148 = .ok (.iinc 3 1, 3) := by decide +kernel
theorem dX10_numberLetters_151 : decode cX10_numberLetters 151 = .ok (.iinc 6 (-1), 3) := by decide +kernel
theorem dX10_numberLetters_154 : decode cX10_numberLetters 154 = .ok (.goto (-40), 3) := by decide +kernel
theorem dX10_numberLetters_157 : decode cX10_numberLetters 157 = .ok (.goto (-106), 3) := by decide +kernel
theorem dX10_numberLetters_160 : decode cX10_numberLetters 160 = .ok (.return_, 1) := by decide +kernel
theorem dX10_told_0 : decode cX10_told 0 = .ok (.iload_n 0, 1) := by decide +kernel
theorem dX10_told_1 : decode cX10_told 1 = .ok (.iconst 3, 1) := by decide +kernel
theorem dX10_told_2 : decode cX10_told 2 = .ok (.if_icmp .ne 9, 3) := by decide +kernel
theorem dX10_told_5 : decode cX10_told 5 = .ok (.iconst 3, 1) := by decide +kernel
theorem dX10_told_6 : decode cX10_told 6 = .ok (.iload_n 1, 1) := by decide +kernel
theorem dX10_told_7 : decode cX10_told 7 = .ok (.iadd, 1) := by decide +kernel
theorem dX10_told_8 : decode cX10_told 8 = .ok (.goto 4, 3) := by decide +kernel
theorem dX10_told_11 : decode cX10_told 11 = .ok (.iload_n 0, 1) := by decide +kernel
theorem dX10_told_12 : decode cX10_told 12 = .ok (.ireturn, 1) := by decide +kernel
theorem dX10_type_0 : decode cX10_type 0 = .ok (.aload_n 0, 1) := by decide +kernel
theorem dX10_type_1 : decode cX10_type 1 = .ok (.iconst 0, 1) := by decide +kernel
theorem dX10_type_2 : decode cX10_type 2 = .ok (.putfield 117, 3) := by decide +kernel
theorem dX10_type_5 : decode cX10_type 5 = .ok (.aload_n 0, 1) := by decide +kernel
theorem dX10_type_6 : decode cX10_type 6 = .ok (.iload_n 1, 1) := by decide +kernel
theorem dX10_type_7 : decode cX10_type 7 = .ok (.invokevirtual 127, 3) := by decide +kernel
theorem dX10_type_10 : decode cX10_type 10 = .ok (.ifCond .eq 12, 3) := by decide +kernel
theorem dX10_type_13 : decode cX10_type 13 = .ok (.aload_n 0, 1) := by decide +kernel
theorem dX10_type_14 : decode cX10_type 14 = .ok (.getfield 28, 3) := by decide +kernel
theorem dX10_type_17 : decode cX10_type 17 = .ok (.iload_n 1, 1) := by decide +kernel
theorem dX10_type_18 : decode cX10_type 18 = .ok (.iaload, 1) := by decide +kernel
theorem dX10_type_19 : decode cX10_type 19 = .ok (.ifCond .le 9, 3) := by decide +kernel
theorem dX10_type_22 : decode cX10_type 22 = .ok (.aload_n 0, 1) := by decide +kernel
theorem dX10_type_23 : decode cX10_type 23 = .ok (.iconst 1, 1) := by decide +kernel
theorem dX10_type_24 : decode cX10_type 24 = .ok (.invokevirtual 138, 3) := by decide +kernel
theorem dX10_type_27 : decode cX10_type 27 = .ok (.ireturn, 1) := by decide +kernel
theorem dX10_type_28 : decode cX10_type 28 = .ok (.aload_n 0, 1) := by decide +kernel
theorem dX10_type_29 : decode cX10_type 29 = .ok (.iconst 0, 1) := by decide +kernel
theorem dX10_type_30 : decode cX10_type 30 = .ok (.putfield 233, 3) := by decide +kernel
theorem dX10_type_33 : decode cX10_type 33 = .ok (.aload_n 0, 1) := by decide +kernel
theorem dX10_type_34 : decode cX10_type 34 = .ok (.iconst 0, 1) := by decide +kernel
theorem dX10_type_35 : decode cX10_type 35 = .ok (.putfield 249, 3) := by decide +kernel
theorem dX10_type_38 : decode cX10_type 38 = .ok (.aload_n 0, 1) := by decide +kernel
theorem dX10_type_39 : decode cX10_type 39 = .ok (.iconst 0, 1) := by decide +kernel
theorem dX10_type_40 : decode cX10_type 40 = .ok (.putfield 252, 3) := by decide +kernel
theorem dX10_type_43 : decode cX10_type 43 = .ok (.aload_n 0, 1) := by decide +kernel
theorem dX10_type_44 : decode cX10_type 44 = .ok (.iconst 0, 1) := by decide +kernel
theorem dX10_type_45 : decode cX10_type 45 = .ok (.putfield 242, 3) := by decide +kernel
theorem dX10_type_48 : decode cX10_type 48 = .ok (.aload_n 0, 1) := by decide +kernel
theorem dX10_type_49 : decode cX10_type 49 = .ok (.invokevirtual 258, 3) := by decide +kernel
theorem dX10_type_52 : decode cX10_type 52 = .ok (.istore_n 2, 1) := by decide +kernel
theorem dX10_type_53 : decode cX10_type 53 = .ok (.aload_n 0, 1) := by decide +kernel
theorem dX10_type_54 : decode cX10_type 54 = .ok (.invokevirtual 258, 3) := by decide +kernel
theorem dX10_type_57 : decode cX10_type 57 = .ok (.istore_n 3, 1) := by decide +kernel
theorem dX10_type_58 : decode cX10_type 58 = .ok (.aload_n 0, 1) := by decide +kernel
theorem dX10_type_59 : decode cX10_type 59 = .ok (.iload_n 1, 1) := by decide +kernel
theorem dX10_type_60 : decode cX10_type 60 = .ok (.iconst 0, 1) := by decide +kernel
theorem dX10_type_61 : decode cX10_type 61 = .ok (.iload_n 2, 1) := by decide +kernel
theorem dX10_type_62 : decode cX10_type 62 = .ok (.iload_n 2, 1) := by decide +kernel
theorem dX10_type_63 : decode cX10_type 63 = .ok (.iload_n 3, 1) := by decide +kernel
theorem dX10_type_64 : decode cX10_type 64 = .ok (.invokevirtual 267, 3) := by decide +kernel
theorem dX10_type_67 : decode cX10_type 67 = .ok (.aload_n 0, 1) := by decide +kernel
theorem dX10_type_68 : decode cX10_type 68 = .ok (.getfield 249, 3) := by decide +kernel
theorem dX10_type_71 : decode cX10_type 71 = .ok (.ifCond .le 17, 3) := by decide +kernel
theorem dX10_type_74 : decode cX10_type 74 = .ok (.aload_n 0, 1) := by decide +kernel
theorem dX10_type_75 : decode cX10_type 75 = .ok (.getfield 242, 3) := by decide +kernel
theorem dX10_type_78 : decode cX10_type 78 = .ok (.ifCond .ne 10, 3) := by decide +kernel
theorem dX10_type_81 : decode cX10_type 81 = .ok (.aload_n 0, 1) := by decide +kernel
theorem dX10_type_82 : decode cX10_type 82 = .ok (.invokevirtual 281, 3) := by decide +kernel
theorem dX10_type_85 : decode cX10_type 85 = .ok (.goto (-18), 3) := by decide +kernel
theorem dX10_type_88 : decode cX10_type 88 = .ok (.aload_n 0, 1) := by decide +kernel
theorem dX10_type_89 : decode cX10_type 89 = .ok (.aload_n 0, 1) := by decide +kernel
theorem dX10_type_90 : decode cX10_type 90 = .ok (.getfield 242, 3) := by decide +kernel
theorem dX10_type_93 : decode cX10_type 93 = .ok (.ifCond .ne 10, 3) := by decide +kernel
theorem dX10_type_96 : decode cX10_type 96 = .ok (.aload_n 0, 1) := by decide +kernel
theorem dX10_type_97 : decode cX10_type 97 = .ok (.invokevirtual 284, 3) := by decide +kernel
theorem dX10_type_100 : decode cX10_type 100 = .ok (.ifCond .eq 7, 3) := by decide +kernel
theorem dX10_type_103 : decode cX10_type 103 = .ok (.iconst 1, 1) := by decide +kernel
theorem dX10_type_104 : decode cX10_type 104 = .ok (.goto 4, 3) := by decide +kernel
theorem dX10_type_107 : decode cX10_type 107 = .ok (.iconst 0, 1) := by decide +kernel
theorem dX10_type_108 : decode cX10_type 108 = .ok (.putfield 242, 3) := by decide +kernel
theorem dX10_type_111 : decode cX10_type 111 = .ok (.aload_n 0, 1) := by decide +kernel
theorem dX10_type_112 : decode cX10_type 112 = .ok (.getfield 242, 3) := by decide +kernel
theorem dX10_type_115 : decode cX10_type 115 = .ok (.ifCond .eq 19, 3) := by decide +kernel
theorem dX10_type_118 : decode cX10_type 118 = .ok (.aload_n 0, 1) := by decide +kernel
theorem dX10_type_119 : decode cX10_type 119 = .ok (.dup, 1) := by decide +kernel
theorem dX10_type_120 : decode cX10_type 120 = .ok (.getfield 288, 3) := by decide +kernel
theorem dX10_type_123 : decode cX10_type 123 = .ok (.iconst 1, 1) := by decide +kernel
theorem dX10_type_124 : decode cX10_type 124 = .ok (.iadd, 1) := by decide +kernel
theorem dX10_type_125 : decode cX10_type 125 = .ok (.putfield 288, 3) := by decide +kernel
theorem dX10_type_128 : decode cX10_type 128 = .ok (.aload_n 0, 1) := by decide +kernel
theorem dX10_type_129 : decode cX10_type 129 = .ok (.iconst 2, 1) := by decide +kernel
theorem dX10_type_130 : decode cX10_type 130 = .ok (.invokevirtual 138, 3) := by decide +kernel
theorem dX10_type_133 : decode cX10_type 133 = .ok (.ireturn, 1) := by decide +kernel
theorem dX10_type_134 : decode cX10_type 134 = .ok (.aload_n 0, 1) := by decide +kernel
theorem dX10_type_135 : decode cX10_type 135 = .ok (.iload_n 3, 1) := by decide +kernel
theorem dX10_type_136 : decode cX10_type 136 = .ok (.invokevirtual 291, 3) := by decide +kernel
theorem dX10_type_139 : decode cX10_type 139 = .ok (.aload_n 0, 1) := by decide +kernel
theorem dX10_type_140 : decode cX10_type 140 = .ok (.iconst 1, 1) := by decide +kernel
theorem dX10_type_141 : decode cX10_type 141 = .ok (.aload_n 0, 1) := by decide +kernel
theorem dX10_type_142 : decode cX10_type 142 = .ok (.getfield 230, 3) := by decide +kernel
theorem dX10_type_145 : decode cX10_type 145 = .ok (.isub, 1) := by decide +kernel
theorem dX10_type_146 : decode cX10_type 146 = .ok (.putfield 230, 3) := by decide +kernel
theorem dX10_type_149 : decode cX10_type 149 = .ok (.aload_n 0, 1) := by decide +kernel
theorem dX10_type_150 : decode cX10_type 150 = .ok (.aload_n 0, 1) := by decide +kernel
theorem dX10_type_151 : decode cX10_type 151 = .ok (.iload_n 3, 1) := by decide +kernel
theorem dX10_type_152 : decode cX10_type 152 = .ok (.invokevirtual 239, 3) := by decide +kernel
theorem dX10_type_155 : decode cX10_type 155 = .ok (.putfield 79, 3) := by decide +kernel
theorem dX10_type_158 : decode cX10_type 158 = .ok (.aload_n 0, 1) := by decide +kernel
theorem dX10_type_159 : decode cX10_type 159 = .ok (.dup, 1) := by decide +kernel
theorem dX10_type_160 : decode cX10_type 160 = .ok (.getfield 295, 3) := by decide +kernel
theorem dX10_type_163 : decode cX10_type 163 = .ok (.iconst 1, 1) := by decide +kernel
theorem dX10_type_164 : decode cX10_type 164 = .ok (.iadd, 1) := by decide +kernel
theorem dX10_type_165 : decode cX10_type 165 = .ok (.putfield 295, 3) := by decide +kernel
theorem dX10_type_168 : decode cX10_type 168 = .ok (.aload_n 0, 1) := by decide +kernel
theorem dX10_type_169 : decode cX10_type 169 = .ok (.getfield 67, 3) := by decide +kernel
theorem dX10_type_172 : decode cX10_type 172 = .ok (.aload_n 0, 1) := by decide +kernel
theorem dX10_type_173 : decode cX10_type 173 = .ok (.getfield 79, 3) := by decide +kernel
theorem dX10_type_176 : decode cX10_type 176 = .ok (.iaload, 1) := by decide +kernel
theorem dX10_type_177 : decode cX10_type 177 = .ok (.ireturn, 1) := by decide +kernel
theorem dX10_part_0 : decode cX10_part 0 = .ok (.aload_n 0, 1) := by decide +kernel
theorem dX10_part_1 : decode cX10_part 1 = .ok (.iconst 0, 1) := by decide +kernel
theorem dX10_part_2 : decode cX10_part 2 = .ok (.putfield 117, 3) := by decide +kernel
theorem dX10_part_5 : decode cX10_part 5 = .ok (.aload_n 0, 1) := by decide +kernel
theorem dX10_part_6 : decode cX10_part 6 = .ok (.getfield 79, 3) := by decide +kernel
theorem dX10_part_9 : decode cX10_part 9 = .ok (.ifCond .lt 7, 3) := by decide +kernel
theorem dX10_part_12 : decode cX10_part 12 = .ok (.iload_n 1, 1) := by decide +kernel
theorem dX10_part_13 : decode cX10_part 13 = .ok (.ifCond .ge 5, 3) := by decide +kernel
theorem dX10_part_16 : decode cX10_part 16 = .ok (.iconst (-1), 1) := by decide +kernel
theorem dX10_part_17 : decode cX10_part 17 = .ok (.ireturn, 1) := by decide +kernel
theorem dX10_part_18 : decode cX10_part 18 = .ok (.aload_n 0, 1) := by decide +kernel
theorem dX10_part_19 : decode cX10_part 19 = .ok (.getfield 79, 3) := by decide +kernel
theorem dX10_part_22 : decode cX10_part 22 = .ok (.istore_n 2, 1) := by decide +kernel
theorem dX10_part_23 : decode cX10_part 23 = .ok (.iload_n 1, 1) := by decide +kernel
theorem dX10_part_24 : decode cX10_part 24 = .ok (.istore_n 3, 1) := by decide +kernel
theorem dX10_part_25 : decode cX10_part 25 = .ok (.iload_n 3, 1) := by decide +kernel
theorem dX10_part_26 : decode cX10_part 26 = .ok (.ifCond .le 57, 3) := by decide +kernel
theorem dX10_part_29 : decode cX10_part 29 = .ok (.iload_n 3, 1) := by decide +kernel
theorem dX10_part_30 : decode cX10_part 30 = .ok (.bipush 10, 2) := by decide +kernel
theorem dX10_part_32 : decode cX10_part 32 = .ok (.irem, 1) := by decide +kernel
theorem dX10_part_33 : decode cX10_part 33 = .ok (.istore 4, 2) := by decide +kernel
theorem dX10_part_35 : decode cX10_part 35 = .ok (.iload 4, 2) := by decide +kernel
theorem dX10_part_37 : decode cX10_part 37 = .ok (.iconst 1, 1) := by decide +kernel
theorem dX10_part_38 : decode cX10_part 38 = .ok (.iconst 4, 1) := by decide +kernel
theorem dX10_part_39 : decode cX10_part 39 = .ok (.invokestatic 123, 3) := by decide +kernel
theorem dX10_part_42 : decode cX10_part 42 = .ok (.ifCond .eq 13, 3) := by decide +kernel
theorem dX10_part_45 : decode cX10_part 45 = .ok (.aload_n 0, 1) := by decide +kernel
theorem dX10_part_46 : decode cX10_part 46 = .ok (.getfield 67, 3) := by decide +kernel
theorem dX10_part_49 : decode cX10_part 49 = .ok (.iload_n 2, 1) := by decide +kernel
theorem dX10_part_50 : decode cX10_part 50 = .ok (.iaload, 1) := by decide +kernel
theorem dX10_part_51 : decode cX10_part 51 = .ok (.iconst 2, 1) := by decide +kernel
theorem dX10_part_52 : decode cX10_part 52 = .ok (.if_icmp .eq 5, 3) := by decide +kernel
theorem dX10_part_55 : decode cX10_part 55 = .ok (.iconst (-1), 1) := by decide +kernel
theorem dX10_part_56 : decode cX10_part 56 = .ok (.ireturn, 1) := by decide +kernel
theorem dX10_part_57 : decode cX10_part 57 = .ok (.aload_n 0, 1) := by decide +kernel
theorem dX10_part_58 : decode cX10_part 58 = .ok (.aload_n 0, 1) := by decide +kernel
theorem dX10_part_59 : decode cX10_part 59 = .ok (.getfield 73, 3) := by decide +kernel
theorem dX10_part_62 : decode cX10_part 62 = .ok (.iconst 4, 1) := by decide +kernel
theorem dX10_part_63 : decode cX10_part 63 = .ok (.iload_n 2, 1) := by decide +kernel
theorem dX10_part_64 : decode cX10_part 64 = .ok (.imul, 1) := by decide +kernel
theorem dX10_part_65 : decode cX10_part 65 = .ok (.iload 4, 2) := by decide +kernel
theorem dX10_part_67 : decode cX10_part 67 = .ok (.iadd, 1) := by decide +kernel
theorem dX10_part_68 : decode cX10_part 68 = .ok (.iconst 1, 1) := by decide +kernel
theorem dX10_part_69 : decode cX10_part 69 = .ok (.isub, 1) := by decide +kernel
theorem dX10_part_70 : decode cX10_part 70 = .ok (.iaload, 1) := by decide +kernel
theorem dX10_part_71 : decode cX10_part 71 = .ok (.invokevirtual 239, 3) := by decide +kernel
theorem dX10_part_74 : decode cX10_part 74 = .ok (.istore_n 2, 1) := by decide +kernel
theorem dX10_part_75 : decode cX10_part 75 = .ok (.iload_n 3, 1) := by decide +kernel
theorem dX10_part_76 : decode cX10_part 76 = .ok (.bipush 10, 2) := by decide +kernel
theorem dX10_part_78 : decode cX10_part 78 = .ok (.idiv, 1) := by decide +kernel
theorem dX10_part_79 : decode cX10_part 79 = .ok (.istore_n 3, 1) := by decide +kernel
theorem dX10_part_80 : decode cX10_part 80 = .ok (.goto (-55), 3) := by decide +kernel
theorem dX10_part_83 : decode cX10_part 83 = .ok (.aload_n 0, 1) := by decide +kernel
theorem dX10_part_84 : decode cX10_part 84 = .ok (.getfield 67, 3) := by decide +kernel
theorem dX10_part_87 : decode cX10_part 87 = .ok (.iload_n 2, 1) := by decide +kernel
theorem dX10_part_88 : decode cX10_part 88 = .ok (.iaload, 1) := by decide +kernel
theorem dX10_part_89 : decode cX10_part 89 = .ok (.aload_n 0, 1) := by decide +kernel
theorem dX10_part_90 : decode cX10_part 90 = .ok (.getfield 76, 3) := by decide +kernel
theorem dX10_part_93 : decode cX10_part 93 = .ok (.iload_n 2, 1) := by decide +kernel
theorem dX10_part_94 : decode cX10_part 94 = .ok (.iaload, 1) := by decide +kernel
theorem dX10_part_95 : decode cX10_part 95 = .ok (.invokestatic 298, 3) := by decide +kernel
theorem dX10_part_98 : decode cX10_part 98 = .ok (.ireturn, 1) := by decide +kernel
theorem dX10_count_0 : decode cX10_count 0 = .ok (.aload_n 0, 1) := by decide +kernel
theorem dX10_count_1 : decode cX10_count 1 = .ok (.iconst 0, 1) := by decide +kernel
theorem dX10_count_2 : decode cX10_count 2 = .ok (.putfield 117, 3) := by decide +kernel
theorem dX10_count_5 : decode cX10_count 5 = .ok (.iload_n 1, 1) := by decide +kernel
theorem dX10_count_6 : decode cX10_count 6 = .ok (.tableswitch 68 0 5 #[38, 43, 48, 53, 58, 63], 38) := by decide +kernel
theorem dX10_count_44 : decode cX10_count 44 = .ok (.aload_n 0, 1) := by decide +kernel
theorem dX10_count_45 : decode cX10_count 45 = .ok (.getfield 120, 3) := by decide +kernel
theorem dX10_count_48 : decode cX10_count 48 = .ok (.ireturn, 1) := by decide +kernel
theorem dX10_count_49 : decode cX10_count 49 = .ok (.aload_n 0, 1) := by decide +kernel
theorem dX10_count_50 : decode cX10_count 50 = .ok (.getfield 224, 3) := by decide +kernel
theorem dX10_count_53 : decode cX10_count 53 = .ok (.ireturn, 1) := by decide +kernel
theorem dX10_count_54 : decode cX10_count 54 = .ok (.aload_n 0, 1) := by decide +kernel
theorem dX10_count_55 : decode cX10_count 55 = .ok (.getfield 209, 3) := by decide +kernel
theorem dX10_count_58 : decode cX10_count 58 = .ok (.ireturn, 1) := by decide +kernel
theorem dX10_count_59 : decode cX10_count 59 = .ok (.aload_n 0, 1) := by decide +kernel
theorem dX10_count_60 : decode cX10_count 60 = .ok (.getfield 212, 3) := by decide +kernel
theorem dX10_count_63 : decode cX10_count 63 = .ok (.ireturn, 1) := by decide +kernel
theorem dX10_count_64 : decode cX10_count 64 = .ok (.aload_n 0, 1) := by decide +kernel
theorem dX10_count_65 : decode cX10_count 65 = .ok (.getfield 295, 3) := by decide +kernel
theorem dX10_count_68 : decode cX10_count 68 = .ok (.ireturn, 1) := by decide +kernel
theorem dX10_count_69 : decode cX10_count 69 = .ok (.aload_n 0, 1) := by decide +kernel
theorem dX10_count_70 : decode cX10_count 70 = .ok (.getfield 288, 3) := by decide +kernel
theorem dX10_count_73 : decode cX10_count 73 = .ok (.ireturn, 1) := by decide +kernel
theorem dX10_count_74 : decode cX10_count 74 = .ok (.iconst (-1), 1) := by decide +kernel
theorem dX10_count_75 : decode cX10_count 75 = .ok (.ireturn, 1) := by decide +kernel
theorem dX10_mean_0 : decode cX10_mean 0 = .ok (.aload_n 0, 1) := by decide +kernel
theorem dX10_mean_1 : decode cX10_mean 1 = .ok (.iconst 0, 1) := by decide +kernel
theorem dX10_mean_2 : decode cX10_mean 2 = .ok (.putfield 117, 3) := by decide +kernel
theorem dX10_mean_5 : decode cX10_mean 5 = .ok (.aload_n 0, 1) := by decide +kernel
theorem dX10_mean_6 : decode cX10_mean 6 = .ok (.getfield 224, 3) := by decide +kernel
theorem dX10_mean_9 : decode cX10_mean 9 = .ok (.ifCond .ne 5, 3) := by decide +kernel
theorem dX10_mean_12 : decode cX10_mean 12 = .ok (.fconst 0, 1) := by decide +kernel
theorem dX10_mean_13 : decode cX10_mean 13 = .ok (.freturn, 1) := by decide +kernel
theorem dX10_mean_14 : decode cX10_mean 14 = .ok (.aload_n 0, 1) := by decide +kernel
theorem dX10_mean_15 : decode cX10_mean 15 = .ok (.getfield 227, 3) := by decide +kernel
theorem dX10_mean_18 : decode cX10_mean 18 = .ok (.i2f, 1) := by decide +kernel
theorem dX10_mean_19 : decode cX10_mean 19 = .ok (.fstore_n 1, 1) := by decide +kernel
theorem dX10_mean_20 : decode cX10_mean 20 = .ok (.aload_n 0, 1) := by decide +kernel
theorem dX10_mean_21 : decode cX10_mean 21 = .ok (.getfield 224, 3) := by decide +kernel
theorem dX10_mean_24 : decode cX10_mean 24 = .ok (.i2f, 1) := by decide +kernel
theorem dX10_mean_25 : decode cX10_mean 25 = .ok (.fstore_n 2, 1) := by decide +kernel
theorem dX10_mean_26 : decode cX10_mean 26 = .ok (.fload_n 1, 1) := by decide +kernel
theorem dX10_mean_27 : decode cX10_mean 27 = .ok (.fload_n 2, 1) := by decide +kernel
theorem dX10_mean_28 : decode cX10_mean 28 = .ok (.fdiv, 1) := by decide +kernel
theorem dX10_mean_29 : decode cX10_mean 29 = .ok (.freturn, 1) := by decide +kernel

theorem d_M_deadline_44 : decode c_M_deadline 44 = .ok (.lload 4, 2) := by decide +kernel
theorem d_M_deadline_46 : decode c_M_deadline 46 = .ok (.ldc2_w 92, 3) := by decide +kernel
theorem d_M_deadline_49 : decode c_M_deadline 49 = .ok (.lcmp, 1) := by decide +kernel
theorem d_M_deadline_50 : decode c_M_deadline 50 = .ok (.ifCond .gt 20, 3) := by decide +kernel
theorem d_M_deadline_53 : decode c_M_deadline 53 = .ok (.lload 6, 2) := by decide +kernel
theorem d_M_deadline_55 : decode c_M_deadline 55 = .ok (.lload 4, 2) := by decide +kernel
theorem d_M_deadline_57 : decode c_M_deadline 57 = .ok (.lcmp, 1) := by decide +kernel
theorem d_M_deadline_58 : decode c_M_deadline 58 = .ok (.ifCond .lt 12, 3) := by decide +kernel
theorem d_M_deadline_61 : decode c_M_deadline 61 = .ok (.lload 6, 2) := by decide +kernel
theorem d_M_deadline_63 : decode c_M_deadline 63 = .ok (.ldc2_w 92, 3) := by decide +kernel
theorem d_M_deadline_66 : decode c_M_deadline 66 = .ok (.lcmp, 1) := by decide +kernel
theorem d_M_deadline_67 : decode c_M_deadline 67 = .ok (.ifCond .le 6, 3) := by decide +kernel
theorem d_M_deadline_70 : decode c_M_deadline 70 = .ok (.bipush (-2), 2) := by decide +kernel
theorem d_M_deadline_72 : decode c_M_deadline 72 = .ok (.ireturn, 1) := by decide +kernel
theorem d_M_deadline_73 : decode c_M_deadline 73 = .ok (.aload_n 0, 1) := by decide +kernel
theorem d_M_deadline_74 : decode c_M_deadline 74 = .ok (.getfield 42, 3) := by decide +kernel
theorem d_M_deadline_77 : decode c_M_deadline 77 = .ok (.iload_n 1, 1) := by decide +kernel
theorem d_M_deadline_78 : decode c_M_deadline 78 = .ok (.iaload, 1) := by decide +kernel
theorem d_M_deadline_79 : decode c_M_deadline 79 = .ok (.bipush 10, 2) := by decide +kernel
theorem d_M_deadline_81 : decode c_M_deadline 81 = .ok (.if_icmp .ne 6, 3) := by decide +kernel
theorem d_M_deadline_84 : decode c_M_deadline 84 = .ok (.bipush (-4), 2) := by decide +kernel
theorem d_M_deadline_86 : decode c_M_deadline 86 = .ok (.ireturn, 1) := by decide +kernel
theorem d_M_deadline_87 : decode c_M_deadline 87 = .ok (.bipush 10, 2) := by decide +kernel
theorem d_M_deadline_89 : decode c_M_deadline 89 = .ok (.iload_n 1, 1) := by decide +kernel
theorem d_M_deadline_90 : decode c_M_deadline 90 = .ok (.imul, 1) := by decide +kernel
theorem d_M_deadline_91 : decode c_M_deadline 91 = .ok (.aload_n 0, 1) := by decide +kernel
theorem d_M_deadline_92 : decode c_M_deadline 92 = .ok (.getfield 42, 3) := by decide +kernel
theorem d_M_deadline_95 : decode c_M_deadline 95 = .ok (.iload_n 1, 1) := by decide +kernel
theorem d_M_deadline_96 : decode c_M_deadline 96 = .ok (.iaload, 1) := by decide +kernel
theorem d_M_deadline_97 : decode c_M_deadline 97 = .ok (.iadd, 1) := by decide +kernel
theorem d_M_deadline_98 : decode c_M_deadline 98 = .ok (.istore 8, 2) := by decide +kernel
theorem d_M_deadline_100 : decode c_M_deadline 100 = .ok (.aload_n 0, 1) := by decide +kernel
theorem d_M_deadline_101 : decode c_M_deadline 101 = .ok (.getfield 45, 3) := by decide +kernel
theorem d_M_deadline_104 : decode c_M_deadline 104 = .ok (.iload 8, 2) := by decide +kernel
theorem d_M_deadline_106 : decode c_M_deadline 106 = .ok (.aload_n 0, 1) := by decide +kernel
theorem d_M_deadline_107 : decode c_M_deadline 107 = .ok (.getfield 81, 3) := by decide +kernel
theorem d_M_deadline_110 : decode c_M_deadline 110 = .ok (.iastore, 1) := by decide +kernel
theorem d_M_deadline_111 : decode c_M_deadline 111 = .ok (.aload_n 0, 1) := by decide +kernel
theorem d_M_deadline_112 : decode c_M_deadline 112 = .ok (.getfield 48, 3) := by decide +kernel
theorem d_M_deadline_115 : decode c_M_deadline 115 = .ok (.iload 8, 2) := by decide +kernel
theorem d_M_deadline_117 : decode c_M_deadline 117 = .ok (.iload_n 2, 1) := by decide +kernel
theorem d_M_deadline_118 : decode c_M_deadline 118 = .ok (.iastore, 1) := by decide +kernel
theorem d_M_deadline_119 : decode c_M_deadline 119 = .ok (.aload_n 0, 1) := by decide +kernel
theorem d_M_deadline_120 : decode c_M_deadline 120 = .ok (.getfield 51, 3) := by decide +kernel
theorem d_M_deadline_123 : decode c_M_deadline 123 = .ok (.iload 8, 2) := by decide +kernel
theorem d_M_deadline_125 : decode c_M_deadline 125 = .ok (.iload_n 3, 1) := by decide +kernel
theorem d_M_deadline_126 : decode c_M_deadline 126 = .ok (.iastore, 1) := by decide +kernel
theorem d_M_deadline_127 : decode c_M_deadline 127 = .ok (.aload_n 0, 1) := by decide +kernel
theorem d_M_deadline_128 : decode c_M_deadline 128 = .ok (.getfield 54, 3) := by decide +kernel
theorem d_M_deadline_131 : decode c_M_deadline 131 = .ok (.iload 8, 2) := by decide +kernel
theorem d_M_deadline_133 : decode c_M_deadline 133 = .ok (.lload 4, 2) := by decide +kernel
theorem d_M_deadline_135 : decode c_M_deadline 135 = .ok (.lastore, 1) := by decide +kernel
theorem d_M_deadline_136 : decode c_M_deadline 136 = .ok (.aload_n 0, 1) := by decide +kernel
theorem d_M_deadline_137 : decode c_M_deadline 137 = .ok (.getfield 58, 3) := by decide +kernel
theorem d_M_deadline_140 : decode c_M_deadline 140 = .ok (.iload 8, 2) := by decide +kernel
theorem d_M_deadline_142 : decode c_M_deadline 142 = .ok (.lload 6, 2) := by decide +kernel
theorem d_M_deadline_144 : decode c_M_deadline 144 = .ok (.lastore, 1) := by decide +kernel
theorem d_M_deadline_145 : decode c_M_deadline 145 = .ok (.aload_n 0, 1) := by decide +kernel
theorem d_M_deadline_146 : decode c_M_deadline 146 = .ok (.getfield 61, 3) := by decide +kernel
theorem d_M_deadline_149 : decode c_M_deadline 149 = .ok (.iload 8, 2) := by decide +kernel
theorem d_M_deadline_151 : decode c_M_deadline 151 = .ok (.ldc2_w 64, 3) := by decide +kernel
theorem d_M_deadline_154 : decode c_M_deadline 154 = .ok (.lastore, 1) := by decide +kernel
theorem d_M_deadline_155 : decode c_M_deadline 155 = .ok (.aload_n 0, 1) := by decide +kernel
theorem d_M_deadline_156 : decode c_M_deadline 156 = .ok (.getfield 42, 3) := by decide +kernel
theorem d_M_deadline_159 : decode c_M_deadline 159 = .ok (.iload_n 1, 1) := by decide +kernel
theorem d_M_deadline_160 : decode c_M_deadline 160 = .ok (.dup2, 1) := by decide +kernel
theorem d_M_deadline_161 : decode c_M_deadline 161 = .ok (.iaload, 1) := by decide +kernel
theorem d_M_deadline_162 : decode c_M_deadline 162 = .ok (.iconst 1, 1) := by decide +kernel
theorem d_M_deadline_163 : decode c_M_deadline 163 = .ok (.iadd, 1) := by decide +kernel
theorem d_M_deadline_164 : decode c_M_deadline 164 = .ok (.iastore, 1) := by decide +kernel
theorem d_M_deadline_165 : decode c_M_deadline 165 = .ok (.aload_n 0, 1) := by decide +kernel
theorem d_M_deadline_166 : decode c_M_deadline 166 = .ok (.getfield 42, 3) := by decide +kernel
theorem d_M_deadline_169 : decode c_M_deadline 169 = .ok (.iload_n 1, 1) := by decide +kernel
theorem d_M_deadline_170 : decode c_M_deadline 170 = .ok (.iaload, 1) := by decide +kernel
theorem d_M_deadline_171 : decode c_M_deadline 171 = .ok (.ireturn, 1) := by decide +kernel
theorem d_M_point_0 : decode c_M_point 0 = .ok (.aload_n 0, 1) := by decide +kernel
theorem d_M_point_1 : decode c_M_point 1 = .ok (.iconst 0, 1) := by decide +kernel
theorem d_M_point_2 : decode c_M_point 2 = .ok (.putfield 66, 3) := by decide +kernel
theorem d_M_point_5 : decode c_M_point 5 = .ok (.aload_n 0, 1) := by decide +kernel
theorem d_M_point_6 : decode c_M_point 6 = .ok (.iload_n 1, 1) := by decide +kernel
theorem d_M_point_7 : decode c_M_point 7 = .ok (.invokevirtual 84, 3) := by decide +kernel
theorem d_M_point_10 : decode c_M_point 10 = .ok (.ifCond .ne 5, 3) := by decide +kernel
theorem d_M_point_13 : decode c_M_point 13 = .ok (.iconst (-1), 1) := by decide +kernel
theorem d_M_point_14 : decode c_M_point 14 = .ok (.ireturn, 1) := by decide +kernel
theorem d_M_point_15 : decode c_M_point 15 = .ok (.iload_n 2, 1) := by decide +kernel
theorem d_M_point_16 : decode c_M_point 16 = .ok (.iconst 1, 1) := by decide +kernel
theorem d_M_point_17 : decode c_M_point 17 = .ok (.if_icmp .lt 17, 3) := by decide +kernel
theorem d_M_point_20 : decode c_M_point 20 = .ok (.iload_n 2, 1) := by decide +kernel
theorem d_M_point_21 : decode c_M_point 21 = .ok (.bipush 30, 2) := by decide +kernel
theorem d_M_point_23 : decode c_M_point 23 = .ok (.if_icmp .gt 11, 3) := by decide +kernel
theorem d_M_point_26 : decode c_M_point 26 = .ok (.aload_n 0, 1) := by decide +kernel
theorem d_M_point_27 : decode c_M_point 27 = .ok (.lload_n 3, 1) := by decide +kernel
theorem d_M_point_28 : decode c_M_point 28 = .ok (.invokevirtual 94, 3) := by decide +kernel
theorem d_M_point_31 : decode c_M_point 31 = .ok (.ifCond .ne 6, 3) := by decide +kernel
theorem d_M_point_34 : decode c_M_point 34 = .ok (.bipush (-2), 2) := by decide +kernel
theorem d_M_point_36 : decode c_M_point 36 = .ok (.ireturn, 1) := by decide +kernel
theorem d_M_point_37 : decode c_M_point 37 = .ok (.aload_n 0, 1) := by decide +kernel
theorem d_M_point_38 : decode c_M_point 38 = .ok (.lload_n 3, 1) := by decide +kernel
theorem d_M_point_39 : decode c_M_point 39 = .ok (.putfield 73, 3) := by decide +kernel
theorem d_M_point_42 : decode c_M_point 42 = .ok (.aload_n 0, 1) := by decide +kernel
theorem d_M_point_43 : decode c_M_point 43 = .ok (.getfield 39, 3) := by decide +kernel
theorem d_M_point_46 : decode c_M_point 46 = .ok (.aload_n 0, 1) := by decide +kernel
theorem d_M_point_47 : decode c_M_point 47 = .ok (.iload_n 1, 1) := by decide +kernel
theorem d_M_point_48 : decode c_M_point 48 = .ok (.aload_n 0, 1) := by decide +kernel
theorem d_M_point_49 : decode c_M_point 49 = .ok (.getfield 35, 3) := by decide +kernel
theorem d_M_point_52 : decode c_M_point 52 = .ok (.iload_n 1, 1) := by decide +kernel
theorem d_M_point_53 : decode c_M_point 53 = .ok (.iaload, 1) := by decide +kernel
theorem d_M_point_54 : decode c_M_point 54 = .ok (.iload_n 2, 1) := by decide +kernel
theorem d_M_point_55 : decode c_M_point 55 = .ok (.invokevirtual 88, 3) := by decide +kernel
theorem d_M_point_58 : decode c_M_point 58 = .ok (.baload, 1) := by decide +kernel
theorem d_M_point_59 : decode c_M_point 59 = .ok (.istore 5, 2) := by decide +kernel
theorem d_M_point_61 : decode c_M_point 61 = .ok (.aload_n 0, 1) := by decide +kernel
theorem d_M_point_62 : decode c_M_point 62 = .ok (.getfield 35, 3) := by decide +kernel
theorem d_M_point_65 : decode c_M_point 65 = .ok (.iload_n 1, 1) := by decide +kernel
theorem d_M_point_66 : decode c_M_point 66 = .ok (.iload_n 2, 1) := by decide +kernel
theorem d_M_point_67 : decode c_M_point 67 = .ok (.iastore, 1) := by decide +kernel
theorem d_M_point_68 : decode c_M_point 68 = .ok (.aload_n 0, 1) := by decide +kernel
theorem d_M_point_69 : decode c_M_point 69 = .ok (.getfield 19, 3) := by decide +kernel
theorem d_M_point_72 : decode c_M_point 72 = .ok (.iload_n 1, 1) := by decide +kernel
theorem d_M_point_73 : decode c_M_point 73 = .ok (.iaload, 1) := by decide +kernel
theorem d_M_point_74 : decode c_M_point 74 = .ok (.iconst 2, 1) := by decide +kernel
theorem d_M_point_75 : decode c_M_point 75 = .ok (.if_icmp .ne 5, 3) := by decide +kernel
theorem d_M_point_78 : decode c_M_point 78 = .ok (.iconst 2, 1) := by decide +kernel
theorem d_M_point_79 : decode c_M_point 79 = .ok (.ireturn, 1) := by decide +kernel
theorem d_M_point_80 : decode c_M_point 80 = .ok (.iload 5, 2) := by decide +kernel
theorem d_M_point_82 : decode c_M_point 82 = .ok (.ifCond .ne 12, 3) := by decide +kernel
theorem d_M_point_85 : decode c_M_point 85 = .ok (.aload_n 0, 1) := by decide +kernel
theorem d_M_point_86 : decode c_M_point 86 = .ok (.getfield 19, 3) := by decide +kernel
theorem d_M_point_89 : decode c_M_point 89 = .ok (.iload_n 1, 1) := by decide +kernel
theorem d_M_point_90 : decode c_M_point 90 = .ok (.iconst 2, 1) := by decide +kernel
theorem d_M_point_91 : decode c_M_point 91 = .ok (.iastore, 1) := by decide +kernel
theorem d_M_point_92 : decode c_M_point 92 = .ok (.iconst 2, 1) := by decide +kernel
theorem d_M_point_93 : decode c_M_point 93 = .ok (.ireturn, 1) := by decide +kernel
theorem d_M_point_94 : decode c_M_point 94 = .ok (.bipush 10, 2) := by decide +kernel
theorem d_M_point_96 : decode c_M_point 96 = .ok (.iload_n 1, 1) := by decide +kernel
theorem d_M_point_97 : decode c_M_point 97 = .ok (.imul, 1) := by decide +kernel
theorem d_M_point_98 : decode c_M_point 98 = .ok (.istore 6, 2) := by decide +kernel
theorem d_M_point_100 : decode c_M_point 100 = .ok (.iload 6, 2) := by decide +kernel
theorem d_M_point_102 : decode c_M_point 102 = .ok (.bipush 10, 2) := by decide +kernel
theorem d_M_point_104 : decode c_M_point 104 = .ok (.iload_n 1, 1) := by decide +kernel
theorem d_M_point_105 : decode c_M_point 105 = .ok (.imul, 1) := by decide +kernel
theorem d_M_point_106 : decode c_M_point 106 = .ok (.aload_n 0, 1) := by decide +kernel
theorem d_M_point_107 : decode c_M_point 107 = .ok (.getfield 42, 3) := by decide +kernel
theorem d_M_point_110 : decode c_M_point 110 = .ok (.iload_n 1, 1) := by decide +kernel
theorem d_M_point_111 : decode c_M_point 111 = .ok (.iaload, 1) := by decide +kernel
theorem d_M_point_112 : decode c_M_point 112 = .ok (.iadd, 1) := by decide +kernel
theorem d_M_point_113 : decode c_M_point 113 = .ok (.if_icmp .ge 103, 3) := by decide +kernel
theorem d_M_point_116 : decode c_M_point 116 = .ok (.aload_n 0, 1) := by decide +kernel
theorem d_M_point_117 : decode c_M_point 117 = .ok (.getfield 45, 3) := by decide +kernel
theorem d_M_point_120 : decode c_M_point 120 = .ok (.iload 6, 2) := by decide +kernel
theorem d_M_point_122 : decode c_M_point 122 = .ok (.iaload, 1) := by decide +kernel
theorem d_M_point_123 : decode c_M_point 123 = .ok (.aload_n 0, 1) := by decide +kernel
theorem d_M_point_124 : decode c_M_point 124 = .ok (.getfield 81, 3) := by decide +kernel
theorem d_M_point_127 : decode c_M_point 127 = .ok (.if_icmp .ne 83, 3) := by decide +kernel
theorem d_M_point_130 : decode c_M_point 130 = .ok (.aload_n 0, 1) := by decide +kernel
theorem d_M_point_131 : decode c_M_point 131 = .ok (.getfield 51, 3) := by decide +kernel
theorem d_M_point_134 : decode c_M_point 134 = .ok (.iload 6, 2) := by decide +kernel
theorem d_M_point_136 : decode c_M_point 136 = .ok (.iaload, 1) := by decide +kernel
theorem d_M_point_137 : decode c_M_point 137 = .ok (.iload_n 2, 1) := by decide +kernel
theorem d_M_point_138 : decode c_M_point 138 = .ok (.if_icmp .ne 72, 3) := by decide +kernel
theorem d_M_point_141 : decode c_M_point 141 = .ok (.aload_n 0, 1) := by decide +kernel
theorem d_M_point_142 : decode c_M_point 142 = .ok (.getfield 61, 3) := by decide +kernel
theorem d_M_point_145 : decode c_M_point 145 = .ok (.iload 6, 2) := by decide +kernel
theorem d_M_point_147 : decode c_M_point 147 = .ok (.laload, 1) := by decide +kernel
theorem d_M_point_148 : decode c_M_point 148 = .ok (.lconst 0, 1) := by decide +kernel
theorem d_M_point_149 : decode c_M_point 149 = .ok (.lcmp, 1) := by decide +kernel
theorem d_M_point_150 : decode c_M_point 150 = .ok (.ifCond .ge 6, 3) := by decide +kernel
theorem d_M_point_153 : decode c_M_point 153 = .ok (.goto 57, 3) := by decide +kernel
theorem d_M_point_156 : decode c_M_point 156 = .ok (.lload_n 3, 1) := by decide +kernel
theorem d_M_point_157 : decode c_M_point 157 = .ok (.aload_n 0, 1) := by decide +kernel
theorem d_M_point_158 : decode c_M_point 158 = .ok (.getfield 61, 3) := by decide +kernel
theorem d_M_point_161 : decode c_M_point 161 = .ok (.iload 6, 2) := by decide +kernel
theorem d_M_point_163 : decode c_M_point 163 = .ok (.laload, 1) := by decide +kernel
theorem d_M_point_164 : decode c_M_point 164 = .ok (.lsub, 1) := by decide +kernel
theorem d_M_point_165 : decode c_M_point 165 = .ok (.lstore 7, 2) := by decide +kernel
theorem d_M_point_167 : decode c_M_point 167 = .ok (.lload 7, 2) := by decide +kernel
theorem d_M_point_169 : decode c_M_point 169 = .ok (.aload_n 0, 1) := by decide +kernel
theorem d_M_point_170 : decode c_M_point 170 = .ok (.getfield 54, 3) := by decide +kernel
theorem d_M_point_173 : decode c_M_point 173 = .ok (.iload 6, 2) := by decide +kernel
theorem d_M_point_175 : decode c_M_point 175 = .ok (.laload, 1) := by decide +kernel
theorem d_M_point_176 : decode c_M_point 176 = .ok (.lcmp, 1) := by decide +kernel
theorem d_M_point_177 : decode c_M_point 177 = .ok (.ifCond .lt 16, 3) := by decide +kernel
theorem d_M_point_180 : decode c_M_point 180 = .ok (.lload 7, 2) := by decide +kernel
theorem d_M_point_182 : decode c_M_point 182 = .ok (.aload_n 0, 1) := by decide +kernel
theorem d_M_point_183 : decode c_M_point 183 = .ok (.getfield 58, 3) := by decide +kernel
theorem d_M_point_186 : decode c_M_point 186 = .ok (.iload 6, 2) := by decide +kernel
theorem d_M_point_188 : decode c_M_point 188 = .ok (.laload, 1) := by decide +kernel
theorem d_M_point_189 : decode c_M_point 189 = .ok (.lcmp, 1) := by decide +kernel
theorem d_M_point_190 : decode c_M_point 190 = .ok (.ifCond .le 10, 3) := by decide +kernel
theorem d_M_point_193 : decode c_M_point 193 = .ok (.aload_n 0, 1) := by decide +kernel
theorem d_M_point_194 : decode c_M_point 194 = .ok (.getfield 31, 3) := by decide +kernel
theorem d_M_point_197 : decode c_M_point 197 = .ok (.iload_n 1, 1) := by decide +kernel
theorem d_M_point_198 : decode c_M_point 198 = .ok (.iconst 1, 1) := by decide +kernel
theorem d_M_point_199 : decode c_M_point 199 = .ok (.bastore, 1) := by decide +kernel
theorem d_M_point_200 : decode c_M_point 200 = .ok (.aload_n 0, 1) := by decide +kernel
theorem d_M_point_201 : decode c_M_point 201 = .ok (.getfield 61, 3) := by decide +kernel
theorem d_M_point_204 : decode c_M_point 204 = .ok (.iload 6, 2) := by decide +kernel
theorem d_M_point_206 : decode c_M_point 206 = .ok (.ldc2_w 64, 3) := by decide +kernel
theorem d_M_point_209 : decode c_M_point 209 = .ok (.lastore, 1) := by decide +kernel
theorem d_M_point_210 : decode c_M_point 210 = .ok (.iinc 6 1, 3) := by decide +kernel
theorem d_M_point_213 : decode c_M_point 213 = .ok (.goto (-113), 3) := by decide +kernel
theorem d_M_point_216 : decode c_M_point 216 = .ok (.bipush 10, 2) := by decide +kernel
theorem d_M_point_218 : decode c_M_point 218 = .ok (.iload_n 1, 1) := by decide +kernel
theorem d_M_point_219 : decode c_M_point 219 = .ok (.imul, 1) := by decide +kernel
theorem d_M_point_220 : decode c_M_point 220 = .ok (.istore 6, 2) := by decide +kernel
theorem d_M_point_222 : decode c_M_point 222 = .ok (.iload 6, 2) := by decide +kernel
theorem d_M_point_224 : decode c_M_point 224 = .ok (.bipush 10, 2) := by decide +kernel
theorem d_M_point_226 : decode c_M_point 226 = .ok (.iload_n 1, 1) := by decide +kernel
theorem d_M_point_227 : decode c_M_point 227 = .ok (.imul, 1) := by decide +kernel
theorem d_M_point_228 : decode c_M_point 228 = .ok (.aload_n 0, 1) := by decide +kernel
theorem d_M_point_229 : decode c_M_point 229 = .ok (.getfield 42, 3) := by decide +kernel
theorem d_M_point_232 : decode c_M_point 232 = .ok (.iload_n 1, 1) := by decide +kernel
theorem d_M_point_233 : decode c_M_point 233 = .ok (.iaload, 1) := by decide +kernel
theorem d_M_point_234 : decode c_M_point 234 = .ok (.iadd, 1) := by decide +kernel
theorem d_M_point_235 : decode c_M_point 235 = .ok (.if_icmp .ge 42, 3) := by decide +kernel
theorem d_M_point_238 : decode c_M_point 238 = .ok (.aload_n 0, 1) := by decide +kernel
theorem d_M_point_239 : decode c_M_point 239 = .ok (.getfield 45, 3) := by decide +kernel
theorem d_M_point_242 : decode c_M_point 242 = .ok (.iload 6, 2) := by decide +kernel
theorem d_M_point_244 : decode c_M_point 244 = .ok (.iaload, 1) := by decide +kernel
theorem d_M_point_245 : decode c_M_point 245 = .ok (.aload_n 0, 1) := by decide +kernel
theorem d_M_point_246 : decode c_M_point 246 = .ok (.getfield 81, 3) := by decide +kernel
theorem d_M_point_249 : decode c_M_point 249 = .ok (.if_icmp .ne 22, 3) := by decide +kernel
theorem d_M_point_252 : decode c_M_point 252 = .ok (.aload_n 0, 1) := by decide +kernel
theorem d_M_point_253 : decode c_M_point 253 = .ok (.getfield 48, 3) := by decide +kernel
theorem d_M_point_256 : decode c_M_point 256 = .ok (.iload 6, 2) := by decide +kernel
theorem d_M_point_258 : decode c_M_point 258 = .ok (.iaload, 1) := by decide +kernel
theorem d_M_point_259 : decode c_M_point 259 = .ok (.iload_n 2, 1) := by decide +kernel
theorem d_M_point_260 : decode c_M_point 260 = .ok (.if_icmp .ne 11, 3) := by decide +kernel
theorem d_M_point_263 : decode c_M_point 263 = .ok (.aload_n 0, 1) := by decide +kernel
theorem d_M_point_264 : decode c_M_point 264 = .ok (.getfield 61, 3) := by decide +kernel
theorem d_M_point_267 : decode c_M_point 267 = .ok (.iload 6, 2) := by decide +kernel
theorem d_M_point_269 : decode c_M_point 269 = .ok (.lload_n 3, 1) := by decide +kernel
theorem d_M_point_270 : decode c_M_point 270 = .ok (.lastore, 1) := by decide +kernel
theorem d_M_point_271 : decode c_M_point 271 = .ok (.iinc 6 1, 3) := by decide +kernel
theorem d_M_point_274 : decode c_M_point 274 = .ok (.goto (-52), 3) := by decide +kernel
theorem d_M_point_277 : decode c_M_point 277 = .ok (.iload_n 2, 1) := by decide +kernel
theorem d_M_point_278 : decode c_M_point 278 = .ok (.iconst 1, 1) := by decide +kernel
theorem d_M_point_279 : decode c_M_point 279 = .ok (.if_icmp .ne 13, 3) := by decide +kernel
theorem d_M_point_282 : decode c_M_point 282 = .ok (.aload_n 0, 1) := by decide +kernel
theorem d_M_point_283 : decode c_M_point 283 = .ok (.getfield 28, 3) := by decide +kernel
theorem d_M_point_286 : decode c_M_point 286 = .ok (.iload_n 1, 1) := by decide +kernel
theorem d_M_point_287 : decode c_M_point 287 = .ok (.dup2, 1) := by decide +kernel
theorem d_M_point_288 : decode c_M_point 288 = .ok (.iaload, 1) := by decide +kernel
theorem d_M_point_289 : decode c_M_point 289 = .ok (.iconst 1, 1) := by decide +kernel
theorem d_M_point_290 : decode c_M_point 290 = .ok (.iadd, 1) := by decide +kernel
theorem d_M_point_291 : decode c_M_point 291 = .ok (.iastore, 1) := by decide +kernel
theorem d_M_point_292 : decode c_M_point 292 = .ok (.aload_n 0, 1) := by decide +kernel
theorem d_M_point_293 : decode c_M_point 293 = .ok (.getfield 19, 3) := by decide +kernel
theorem d_M_point_296 : decode c_M_point 296 = .ok (.iload_n 1, 1) := by decide +kernel
theorem d_M_point_297 : decode c_M_point 297 = .ok (.iaload, 1) := by decide +kernel
theorem d_M_point_298 : decode c_M_point 298 = .ok (.ireturn, 1) := by decide +kernel
theorem d_M_clear_0 : decode c_M_clear 0 = .ok (.aload_n 0, 1) := by decide +kernel
theorem d_M_clear_1 : decode c_M_clear 1 = .ok (.getfield 28, 3) := by decide +kernel
theorem d_M_clear_4 : decode c_M_clear 4 = .ok (.iload_n 1, 1) := by decide +kernel
theorem d_M_clear_5 : decode c_M_clear 5 = .ok (.iconst 0, 1) := by decide +kernel
theorem d_M_clear_6 : decode c_M_clear 6 = .ok (.iastore, 1) := by decide +kernel
theorem d_M_clear_7 : decode c_M_clear 7 = .ok (.aload_n 0, 1) := by decide +kernel
theorem d_M_clear_8 : decode c_M_clear 8 = .ok (.getfield 31, 3) := by decide +kernel
theorem d_M_clear_11 : decode c_M_clear 11 = .ok (.iload_n 1, 1) := by decide +kernel
theorem d_M_clear_12 : decode c_M_clear 12 = .ok (.iconst 0, 1) := by decide +kernel
theorem d_M_clear_13 : decode c_M_clear 13 = .ok (.bastore, 1) := by decide +kernel
theorem d_M_clear_14 : decode c_M_clear 14 = .ok (.aload_n 0, 1) := by decide +kernel
theorem d_M_clear_15 : decode c_M_clear 15 = .ok (.getfield 35, 3) := by decide +kernel
theorem d_M_clear_18 : decode c_M_clear 18 = .ok (.iload_n 1, 1) := by decide +kernel
theorem d_M_clear_19 : decode c_M_clear 19 = .ok (.iconst 0, 1) := by decide +kernel
theorem d_M_clear_20 : decode c_M_clear 20 = .ok (.iastore, 1) := by decide +kernel
theorem d_M_clear_21 : decode c_M_clear 21 = .ok (.bipush 10, 2) := by decide +kernel
theorem d_M_clear_23 : decode c_M_clear 23 = .ok (.iload_n 1, 1) := by decide +kernel
theorem d_M_clear_24 : decode c_M_clear 24 = .ok (.imul, 1) := by decide +kernel
theorem d_M_clear_25 : decode c_M_clear 25 = .ok (.istore_n 2, 1) := by decide +kernel
theorem d_M_clear_26 : decode c_M_clear 26 = .ok (.iload_n 2, 1) := by decide +kernel
theorem d_M_clear_27 : decode c_M_clear 27 = .ok (.bipush 10, 2) := by decide +kernel
theorem d_M_clear_29 : decode c_M_clear 29 = .ok (.iload_n 1, 1) := by decide +kernel
theorem d_M_clear_30 : decode c_M_clear 30 = .ok (.imul, 1) := by decide +kernel
theorem d_M_clear_31 : decode c_M_clear 31 = .ok (.bipush 10, 2) := by decide +kernel
theorem d_M_clear_33 : decode c_M_clear 33 = .ok (.iadd, 1) := by decide +kernel
theorem d_M_clear_34 : decode c_M_clear 34 = .ok (.if_icmp .ge 18, 3) := by decide +kernel
theorem d_M_clear_37 : decode c_M_clear 37 = .ok (.aload_n 0, 1) := by decide +kernel
theorem d_M_clear_38 : decode c_M_clear 38 = .ok (.getfield 61, 3) := by decide +kernel
theorem d_M_clear_41 : decode c_M_clear 41 = .ok (.iload_n 2, 1) := by decide +kernel
theorem d_M_clear_42 : decode c_M_clear 42 = .ok (.ldc2_w 64, 3) := by decide +kernel
theorem d_M_clear_45 : decode c_M_clear 45 = .ok (.lastore, 1) := by decide +kernel
theorem d_M_clear_46 : decode c_M_clear 46 = .ok (.iinc 2 1, 3) := by decide +kernel
theorem d_M_clear_49 : decode c_M_clear 49 = .ok (.goto (-23), 3) := by decide +kernel
theorem d_M_clear_52 : decode c_M_clear 52 = .ok (.return_, 1) := by decide +kernel
theorem d_M_reset0_0 : decode c_M_reset0 0 = .ok (.aload_n 0, 1) := by decide +kernel
theorem d_M_reset0_1 : decode c_M_reset0 1 = .ok (.iload_n 1, 1) := by decide +kernel
theorem d_M_reset0_2 : decode c_M_reset0 2 = .ok (.putfield 98, 3) := by decide +kernel
theorem d_M_reset0_5 : decode c_M_reset0 5 = .ok (.aload_n 0, 1) := by decide +kernel
theorem d_M_reset0_6 : decode c_M_reset0 6 = .ok (.dup, 1) := by decide +kernel
theorem d_M_reset0_7 : decode c_M_reset0 7 = .ok (.getfield 101, 3) := by decide +kernel
theorem d_M_reset0_10 : decode c_M_reset0 10 = .ok (.iconst 1, 1) := by decide +kernel
theorem d_M_reset0_11 : decode c_M_reset0 11 = .ok (.iadd, 1) := by decide +kernel
theorem d_M_reset0_12 : decode c_M_reset0 12 = .ok (.putfield 101, 3) := by decide +kernel
theorem d_M_reset0_15 : decode c_M_reset0 15 = .ok (.iconst 1, 1) := by decide +kernel
theorem d_M_reset0_16 : decode c_M_reset0 16 = .ok (.istore_n 2, 1) := by decide +kernel
theorem d_M_reset0_17 : decode c_M_reset0 17 = .ok (.iload_n 2, 1) := by decide +kernel
theorem d_M_reset0_18 : decode c_M_reset0 18 = .ok (.aload_n 0, 1) := by decide +kernel
theorem d_M_reset0_19 : decode c_M_reset0 19 = .ok (.getfield 70, 3) := by decide +kernel
theorem d_M_reset0_22 : decode c_M_reset0 22 = .ok (.if_icmp .gt 28, 3) := by decide +kernel
theorem d_M_reset0_25 : decode c_M_reset0 25 = .ok (.aload_n 0, 1) := by decide +kernel
theorem d_M_reset0_26 : decode c_M_reset0 26 = .ok (.iload_n 2, 1) := by decide +kernel
theorem d_M_reset0_27 : decode c_M_reset0 27 = .ok (.invokevirtual 104, 3) := by decide +kernel
theorem d_M_reset0_30 : decode c_M_reset0 30 = .ok (.aload_n 0, 1) := by decide +kernel
theorem d_M_reset0_31 : decode c_M_reset0 31 = .ok (.getfield 19, 3) := by decide +kernel
theorem d_M_reset0_34 : decode c_M_reset0 34 = .ok (.iload_n 2, 1) := by decide +kernel
theorem d_M_reset0_35 : decode c_M_reset0 35 = .ok (.iconst 0, 1) := by decide +kernel
theorem d_M_reset0_36 : decode c_M_reset0 36 = .ok (.iastore, 1) := by decide +kernel
theorem d_M_reset0_37 : decode c_M_reset0 37 = .ok (.aload_n 0, 1) := by decide +kernel
theorem d_M_reset0_38 : decode c_M_reset0 38 = .ok (.getfield 22, 3) := by decide +kernel
theorem d_M_reset0_41 : decode c_M_reset0 41 = .ok (.iload_n 2, 1) := by decide +kernel
theorem d_M_reset0_42 : decode c_M_reset0 42 = .ok (.iconst 0, 1) := by decide +kernel
theorem d_M_reset0_43 : decode c_M_reset0 43 = .ok (.iastore, 1) := by decide +kernel
theorem d_M_reset0_44 : decode c_M_reset0 44 = .ok (.iinc 2 1, 3) := by decide +kernel
theorem d_M_reset0_47 : decode c_M_reset0 47 = .ok (.goto (-30), 3) := by decide +kernel
theorem d_M_reset0_50 : decode c_M_reset0 50 = .ok (.aload_n 0, 1) := by decide +kernel
theorem d_M_reset0_51 : decode c_M_reset0 51 = .ok (.iconst 0, 1) := by decide +kernel
theorem d_M_reset0_52 : decode c_M_reset0 52 = .ok (.putfield 81, 3) := by decide +kernel
theorem d_M_reset0_55 : decode c_M_reset0 55 = .ok (.aload_n 0, 1) := by decide +kernel
theorem d_M_reset0_56 : decode c_M_reset0 56 = .ok (.iconst 0, 1) := by decide +kernel
theorem d_M_reset0_57 : decode c_M_reset0 57 = .ok (.putfield 108, 3) := by decide +kernel
theorem d_M_reset0_60 : decode c_M_reset0 60 = .ok (.aload_n 0, 1) := by decide +kernel
theorem d_M_reset0_61 : decode c_M_reset0 61 = .ok (.iconst 0, 1) := by decide +kernel
theorem d_M_reset0_62 : decode c_M_reset0 62 = .ok (.putfield 111, 3) := by decide +kernel
theorem d_M_reset0_65 : decode c_M_reset0 65 = .ok (.aload_n 0, 1) := by decide +kernel
theorem d_M_reset0_66 : decode c_M_reset0 66 = .ok (.iconst 0, 1) := by decide +kernel
theorem d_M_reset0_67 : decode c_M_reset0 67 = .ok (.putfield 114, 3) := by decide +kernel
theorem d_M_reset0_70 : decode c_M_reset0 70 = .ok (.aload_n 0, 1) := by decide +kernel
theorem d_M_reset0_71 : decode c_M_reset0 71 = .ok (.iconst 0, 1) := by decide +kernel
theorem d_M_reset0_72 : decode c_M_reset0 72 = .ok (.putfield 117, 3) := by decide +kernel
theorem d_M_reset0_75 : decode c_M_reset0 75 = .ok (.aload_n 0, 1) := by decide +kernel
theorem d_M_reset0_76 : decode c_M_reset0 76 = .ok (.iconst 0, 1) := by decide +kernel
theorem d_M_reset0_77 : decode c_M_reset0 77 = .ok (.putfield 120, 3) := by decide +kernel
theorem d_M_reset0_80 : decode c_M_reset0 80 = .ok (.aload_n 0, 1) := by decide +kernel
theorem d_M_reset0_81 : decode c_M_reset0 81 = .ok (.aload_n 0, 1) := by decide +kernel
theorem d_M_reset0_82 : decode c_M_reset0 82 = .ok (.getfield 73, 3) := by decide +kernel
theorem d_M_reset0_85 : decode c_M_reset0 85 = .ok (.putfield 123, 3) := by decide +kernel
theorem d_M_reset0_88 : decode c_M_reset0 88 = .ok (.aload_n 0, 1) := by decide +kernel
theorem d_M_reset0_89 : decode c_M_reset0 89 = .ok (.aload_n 0, 1) := by decide +kernel
theorem d_M_reset0_90 : decode c_M_reset0 90 = .ok (.getfield 73, 3) := by decide +kernel
theorem d_M_reset0_93 : decode c_M_reset0 93 = .ok (.putfield 126, 3) := by decide +kernel
theorem d_M_reset0_96 : decode c_M_reset0 96 = .ok (.return_, 1) := by decide +kernel
theorem d_M_judge_0 : decode c_M_judge 0 = .ok (.bipush 10, 2) := by decide +kernel
theorem d_M_judge_2 : decode c_M_judge 2 = .ok (.iload_n 1, 1) := by decide +kernel
theorem d_M_judge_3 : decode c_M_judge 3 = .ok (.imul, 1) := by decide +kernel
theorem d_M_judge_4 : decode c_M_judge 4 = .ok (.istore_n 2, 1) := by decide +kernel
theorem d_M_judge_5 : decode c_M_judge 5 = .ok (.iload_n 2, 1) := by decide +kernel
theorem d_M_judge_6 : decode c_M_judge 6 = .ok (.bipush 10, 2) := by decide +kernel
theorem d_M_judge_8 : decode c_M_judge 8 = .ok (.iload_n 1, 1) := by decide +kernel
theorem d_M_judge_9 : decode c_M_judge 9 = .ok (.imul, 1) := by decide +kernel
theorem d_M_judge_10 : decode c_M_judge 10 = .ok (.aload_n 0, 1) := by decide +kernel
theorem d_M_judge_11 : decode c_M_judge 11 = .ok (.getfield 42, 3) := by decide +kernel
theorem d_M_judge_14 : decode c_M_judge 14 = .ok (.iload_n 1, 1) := by decide +kernel
theorem d_M_judge_15 : decode c_M_judge 15 = .ok (.iaload, 1) := by decide +kernel
theorem d_M_judge_16 : decode c_M_judge 16 = .ok (.iadd, 1) := by decide +kernel
theorem d_M_judge_17 : decode c_M_judge 17 = .ok (.if_icmp .ge 60, 3) := by decide +kernel
theorem d_M_judge_20 : decode c_M_judge 20 = .ok (.aload_n 0, 1) := by decide +kernel
theorem d_M_judge_21 : decode c_M_judge 21 = .ok (.getfield 61, 3) := by decide +kernel
theorem d_M_judge_24 : decode c_M_judge 24 = .ok (.iload_n 2, 1) := by decide +kernel
theorem d_M_judge_25 : decode c_M_judge 25 = .ok (.laload, 1) := by decide +kernel
theorem d_M_judge_26 : decode c_M_judge 26 = .ok (.lconst 0, 1) := by decide +kernel
theorem d_M_judge_27 : decode c_M_judge 27 = .ok (.lcmp, 1) := by decide +kernel
theorem d_M_judge_28 : decode c_M_judge 28 = .ok (.ifCond .lt 43, 3) := by decide +kernel
theorem d_M_judge_31 : decode c_M_judge 31 = .ok (.aload_n 0, 1) := by decide +kernel
theorem d_M_judge_32 : decode c_M_judge 32 = .ok (.getfield 73, 3) := by decide +kernel
theorem d_M_judge_35 : decode c_M_judge 35 = .ok (.aload_n 0, 1) := by decide +kernel
theorem d_M_judge_36 : decode c_M_judge 36 = .ok (.getfield 61, 3) := by decide +kernel
theorem d_M_judge_39 : decode c_M_judge 39 = .ok (.iload_n 2, 1) := by decide +kernel
theorem d_M_judge_40 : decode c_M_judge 40 = .ok (.laload, 1) := by decide +kernel
theorem d_M_judge_41 : decode c_M_judge 41 = .ok (.lsub, 1) := by decide +kernel
theorem d_M_judge_42 : decode c_M_judge 42 = .ok (.aload_n 0, 1) := by decide +kernel
theorem d_M_judge_43 : decode c_M_judge 43 = .ok (.getfield 58, 3) := by decide +kernel
theorem d_M_judge_46 : decode c_M_judge 46 = .ok (.iload_n 2, 1) := by decide +kernel
theorem d_M_judge_47 : decode c_M_judge 47 = .ok (.laload, 1) := by decide +kernel
theorem d_M_judge_48 : decode c_M_judge 48 = .ok (.lcmp, 1) := by decide +kernel
theorem d_M_judge_49 : decode c_M_judge 49 = .ok (.ifCond .gt 6, 3) := by decide +kernel
theorem d_M_judge_52 : decode c_M_judge 52 = .ok (.goto 19, 3) := by decide +kernel
theorem d_M_judge_55 : decode c_M_judge 55 = .ok (.aload_n 0, 1) := by decide +kernel
theorem d_M_judge_56 : decode c_M_judge 56 = .ok (.getfield 31, 3) := by decide +kernel
theorem d_M_judge_59 : decode c_M_judge 59 = .ok (.iload_n 1, 1) := by decide +kernel
theorem d_M_judge_60 : decode c_M_judge 60 = .ok (.iconst 1, 1) := by decide +kernel
theorem d_M_judge_61 : decode c_M_judge 61 = .ok (.bastore, 1) := by decide +kernel
theorem d_M_judge_62 : decode c_M_judge 62 = .ok (.aload_n 0, 1) := by decide +kernel
theorem d_M_judge_63 : decode c_M_judge 63 = .ok (.getfield 61, 3) := by decide +kernel
theorem d_M_judge_66 : decode c_M_judge 66 = .ok (.iload_n 2, 1) := by decide +kernel
theorem d_M_judge_67 : decode c_M_judge 67 = .ok (.ldc2_w 64, 3) := by decide +kernel
theorem d_M_judge_70 : decode c_M_judge 70 = .ok (.lastore, 1) := by decide +kernel
theorem d_M_judge_71 : decode c_M_judge 71 = .ok (.iinc 2 1, 3) := by decide +kernel
theorem d_M_judge_74 : decode c_M_judge 74 = .ok (.goto (-69), 3) := by decide +kernel
theorem d_M_judge_77 : decode c_M_judge 77 = .ok (.aload_n 0, 1) := by decide +kernel
theorem d_M_judge_78 : decode c_M_judge 78 = .ok (.getfield 108, 3) := by decide +kernel
theorem d_M_judge_81 : decode c_M_judge 81 = .ok (.aload_n 0, 1) := by decide +kernel
theorem d_M_judge_82 : decode c_M_judge 82 = .ok (.getfield 16, 3) := by decide +kernel
theorem d_M_judge_85 : decode c_M_judge 85 = .ok (.iload_n 1, 1) := by decide +kernel
theorem d_M_judge_86 : decode c_M_judge 86 = .ok (.iaload, 1) := by decide +kernel
theorem d_M_judge_87 : decode c_M_judge 87 = .ok (.irem, 1) := by decide +kernel
theorem d_M_judge_88 : decode c_M_judge 88 = .ok (.ifCond .ne 55, 3) := by decide +kernel
theorem d_M_judge_91 : decode c_M_judge 91 = .ok (.aload_n 0, 1) := by decide +kernel
theorem d_M_judge_92 : decode c_M_judge 92 = .ok (.getfield 108, 3) := by decide +kernel
theorem d_M_judge_95 : decode c_M_judge 95 = .ok (.iconst 2, 1) := by decide +kernel
theorem d_M_judge_96 : decode c_M_judge 96 = .ok (.if_icmp .le 40, 3) := by decide +kernel
theorem d_M_judge_99 : decode c_M_judge 99 = .ok (.aload_n 0, 1) := by decide +kernel
theorem d_M_judge_100 : decode c_M_judge 100 = .ok (.getfield 28, 3) := by decide +kernel
theorem d_M_judge_103 : decode c_M_judge 103 = .ok (.iload_n 1, 1) := by decide +kernel
theorem d_M_judge_104 : decode c_M_judge 104 = .ok (.iaload, 1) := by decide +kernel
theorem d_M_judge_105 : decode c_M_judge 105 = .ok (.aload_n 0, 1) := by decide +kernel
theorem d_M_judge_106 : decode c_M_judge 106 = .ok (.getfield 7, 3) := by decide +kernel
theorem d_M_judge_109 : decode c_M_judge 109 = .ok (.iload_n 1, 1) := by decide +kernel
theorem d_M_judge_110 : decode c_M_judge 110 = .ok (.iaload, 1) := by decide +kernel
theorem d_M_judge_111 : decode c_M_judge 111 = .ok (.if_icmp .lt 18, 3) := by decide +kernel
theorem d_M_judge_114 : decode c_M_judge 114 = .ok (.aload_n 0, 1) := by decide +kernel
theorem d_M_judge_115 : decode c_M_judge 115 = .ok (.getfield 28, 3) := by decide +kernel
theorem d_M_judge_118 : decode c_M_judge 118 = .ok (.iload_n 1, 1) := by decide +kernel
theorem d_M_judge_119 : decode c_M_judge 119 = .ok (.iaload, 1) := by decide +kernel
theorem d_M_judge_120 : decode c_M_judge 120 = .ok (.aload_n 0, 1) := by decide +kernel
theorem d_M_judge_121 : decode c_M_judge 121 = .ok (.getfield 13, 3) := by decide +kernel
theorem d_M_judge_124 : decode c_M_judge 124 = .ok (.iload_n 1, 1) := by decide +kernel
theorem d_M_judge_125 : decode c_M_judge 125 = .ok (.iaload, 1) := by decide +kernel
theorem d_M_judge_126 : decode c_M_judge 126 = .ok (.if_icmp .le 10, 3) := by decide +kernel
theorem d_M_judge_129 : decode c_M_judge 129 = .ok (.aload_n 0, 1) := by decide +kernel
theorem d_M_judge_130 : decode c_M_judge 130 = .ok (.getfield 31, 3) := by decide +kernel
theorem d_M_judge_133 : decode c_M_judge 133 = .ok (.iload_n 1, 1) := by decide +kernel
theorem d_M_judge_134 : decode c_M_judge 134 = .ok (.iconst 1, 1) := by decide +kernel
theorem d_M_judge_135 : decode c_M_judge 135 = .ok (.bastore, 1) := by decide +kernel
theorem d_M_judge_136 : decode c_M_judge 136 = .ok (.aload_n 0, 1) := by decide +kernel
theorem d_M_judge_137 : decode c_M_judge 137 = .ok (.getfield 28, 3) := by decide +kernel
theorem d_M_judge_140 : decode c_M_judge 140 = .ok (.iload_n 1, 1) := by decide +kernel
theorem d_M_judge_141 : decode c_M_judge 141 = .ok (.iconst 0, 1) := by decide +kernel
theorem d_M_judge_142 : decode c_M_judge 142 = .ok (.iastore, 1) := by decide +kernel
theorem d_M_judge_143 : decode c_M_judge 143 = .ok (.aload_n 0, 1) := by decide +kernel
theorem d_M_judge_144 : decode c_M_judge 144 = .ok (.getfield 31, 3) := by decide +kernel
theorem d_M_judge_147 : decode c_M_judge 147 = .ok (.iload_n 1, 1) := by decide +kernel
theorem d_M_judge_148 : decode c_M_judge 148 = .ok (.baload, 1) := by decide +kernel
theorem d_M_judge_149 : decode c_M_judge 149 = .ok (.ifCond .eq 42, 3) := by decide +kernel
theorem d_M_judge_152 : decode c_M_judge 152 = .ok (.aload_n 0, 1) := by decide +kernel
theorem d_M_judge_153 : decode c_M_judge 153 = .ok (.getfield 22, 3) := by decide +kernel
theorem d_M_judge_156 : decode c_M_judge 156 = .ok (.iload_n 1, 1) := by decide +kernel
theorem d_M_judge_157 : decode c_M_judge 157 = .ok (.dup2, 1) := by decide +kernel
theorem d_M_judge_158 : decode c_M_judge 158 = .ok (.iaload, 1) := by decide +kernel
theorem d_M_judge_159 : decode c_M_judge 159 = .ok (.iconst 1, 1) := by decide +kernel
theorem d_M_judge_160 : decode c_M_judge 160 = .ok (.iadd, 1) := by decide +kernel
theorem d_M_judge_161 : decode c_M_judge 161 = .ok (.iastore, 1) := by decide +kernel
theorem d_M_judge_162 : decode c_M_judge 162 = .ok (.aload_n 0, 1) := by decide +kernel
theorem d_M_judge_163 : decode c_M_judge 163 = .ok (.getfield 19, 3) := by decide +kernel
theorem d_M_judge_166 : decode c_M_judge 166 = .ok (.iload_n 1, 1) := by decide +kernel
theorem d_M_judge_167 : decode c_M_judge 167 = .ok (.aload_n 0, 1) := by decide +kernel
theorem d_M_judge_168 : decode c_M_judge 168 = .ok (.getfield 22, 3) := by decide +kernel
theorem d_M_judge_171 : decode c_M_judge 171 = .ok (.iload_n 1, 1) := by decide +kernel
theorem d_M_judge_172 : decode c_M_judge 172 = .ok (.iaload, 1) := by decide +kernel
theorem d_M_judge_173 : decode c_M_judge 173 = .ok (.aload_n 0, 1) := by decide +kernel
theorem d_M_judge_174 : decode c_M_judge 174 = .ok (.getfield 25, 3) := by decide +kernel
theorem d_M_judge_177 : decode c_M_judge 177 = .ok (.iload_n 1, 1) := by decide +kernel
theorem d_M_judge_178 : decode c_M_judge 178 = .ok (.iaload, 1) := by decide +kernel
theorem d_M_judge_179 : decode c_M_judge 179 = .ok (.if_icmp .le 7, 3) := by decide +kernel
theorem d_M_judge_182 : decode c_M_judge 182 = .ok (.iconst 2, 1) := by decide +kernel
theorem d_M_judge_183 : decode c_M_judge 183 = .ok (.goto 4, 3) := by decide +kernel
theorem d_M_judge_186 : decode c_M_judge 186 = .ok (.iconst 1, 1) := by decide +kernel
theorem d_M_judge_187 : decode c_M_judge 187 = .ok (.iastore, 1) := by decide +kernel
theorem d_M_judge_188 : decode c_M_judge 188 = .ok (.goto 43, 3) := by decide +kernel
theorem d_M_judge_191 : decode c_M_judge 191 = .ok (.aload_n 0, 1) := by decide +kernel
theorem d_M_judge_192 : decode c_M_judge 192 = .ok (.getfield 19, 3) := by decide +kernel
theorem d_M_judge_195 : decode c_M_judge 195 = .ok (.iload_n 1, 1) := by decide +kernel
theorem d_M_judge_196 : decode c_M_judge 196 = .ok (.iaload, 1) := by decide +kernel
theorem d_M_judge_197 : decode c_M_judge 197 = .ok (.iconst 1, 1) := by decide +kernel
theorem d_M_judge_198 : decode c_M_judge 198 = .ok (.if_icmp .ne 33, 3) := by decide +kernel
theorem d_M_judge_201 : decode c_M_judge 201 = .ok (.aload_n 0, 1) := by decide +kernel
theorem d_M_judge_202 : decode c_M_judge 202 = .ok (.getfield 22, 3) := by decide +kernel
theorem d_M_judge_205 : decode c_M_judge 205 = .ok (.iload_n 1, 1) := by decide +kernel
theorem d_M_judge_206 : decode c_M_judge 206 = .ok (.dup2, 1) := by decide +kernel
theorem d_M_judge_207 : decode c_M_judge 207 = .ok (.iaload, 1) := by decide +kernel
theorem d_M_judge_208 : decode c_M_judge 208 = .ok (.iconst 1, 1) := by decide +kernel
theorem d_M_judge_209 : decode c_M_judge 209 = .ok (.isub, 1) := by decide +kernel
theorem d_M_judge_210 : decode c_M_judge 210 = .ok (.iastore, 1) := by decide +kernel
theorem d_M_judge_211 : decode c_M_judge 211 = .ok (.aload_n 0, 1) := by decide +kernel
theorem d_M_judge_212 : decode c_M_judge 212 = .ok (.getfield 19, 3) := by decide +kernel
theorem d_M_judge_215 : decode c_M_judge 215 = .ok (.iload_n 1, 1) := by decide +kernel
theorem d_M_judge_216 : decode c_M_judge 216 = .ok (.aload_n 0, 1) := by decide +kernel
theorem d_M_judge_217 : decode c_M_judge 217 = .ok (.getfield 22, 3) := by decide +kernel
theorem d_M_judge_220 : decode c_M_judge 220 = .ok (.iload_n 1, 1) := by decide +kernel
theorem d_M_judge_221 : decode c_M_judge 221 = .ok (.iaload, 1) := by decide +kernel
theorem d_M_judge_222 : decode c_M_judge 222 = .ok (.ifCond .ne 7, 3) := by decide +kernel
theorem d_M_judge_225 : decode c_M_judge 225 = .ok (.iconst 0, 1) := by decide +kernel
theorem d_M_judge_226 : decode c_M_judge 226 = .ok (.goto 4, 3) := by decide +kernel
theorem d_M_judge_229 : decode c_M_judge 229 = .ok (.iconst 1, 1) := by decide +kernel
theorem d_M_judge_230 : decode c_M_judge 230 = .ok (.iastore, 1) := by decide +kernel
theorem d_M_judge_231 : decode c_M_judge 231 = .ok (.aload_n 0, 1) := by decide +kernel
theorem d_M_judge_232 : decode c_M_judge 232 = .ok (.getfield 31, 3) := by decide +kernel
theorem d_M_judge_235 : decode c_M_judge 235 = .ok (.iload_n 1, 1) := by decide +kernel
theorem d_M_judge_236 : decode c_M_judge 236 = .ok (.iconst 0, 1) := by decide +kernel
theorem d_M_judge_237 : decode c_M_judge 237 = .ok (.bastore, 1) := by decide +kernel
theorem d_M_judge_238 : decode c_M_judge 238 = .ok (.return_, 1) := by decide +kernel
theorem d_M_cycle_0 : decode c_M_cycle 0 = .ok (.aload_n 0, 1) := by decide +kernel
theorem d_M_cycle_1 : decode c_M_cycle 1 = .ok (.iconst 0, 1) := by decide +kernel
theorem d_M_cycle_2 : decode c_M_cycle 2 = .ok (.putfield 66, 3) := by decide +kernel
theorem d_M_cycle_5 : decode c_M_cycle 5 = .ok (.aload_n 0, 1) := by decide +kernel
theorem d_M_cycle_6 : decode c_M_cycle 6 = .ok (.lload_n 1, 1) := by decide +kernel
theorem d_M_cycle_7 : decode c_M_cycle 7 = .ok (.invokevirtual 94, 3) := by decide +kernel
theorem d_M_cycle_10 : decode c_M_cycle 10 = .ok (.ifCond .ne 6, 3) := by decide +kernel
theorem d_M_cycle_13 : decode c_M_cycle 13 = .ok (.bipush (-2), 2) := by decide +kernel
theorem d_M_cycle_15 : decode c_M_cycle 15 = .ok (.ireturn, 1) := by decide +kernel
theorem d_M_cycle_16 : decode c_M_cycle 16 = .ok (.aload_n 0, 1) := by decide +kernel
theorem d_M_cycle_17 : decode c_M_cycle 17 = .ok (.lload_n 1, 1) := by decide +kernel
theorem d_M_cycle_18 : decode c_M_cycle 18 = .ok (.putfield 73, 3) := by decide +kernel
theorem d_M_cycle_21 : decode c_M_cycle 21 = .ok (.aload_n 0, 1) := by decide +kernel
theorem d_M_cycle_22 : decode c_M_cycle 22 = .ok (.dup, 1) := by decide +kernel
theorem d_M_cycle_23 : decode c_M_cycle 23 = .ok (.getfield 108, 3) := by decide +kernel
theorem d_M_cycle_26 : decode c_M_cycle 26 = .ok (.iconst 1, 1) := by decide +kernel
theorem d_M_cycle_27 : decode c_M_cycle 27 = .ok (.iadd, 1) := by decide +kernel
theorem d_M_cycle_28 : decode c_M_cycle 28 = .ok (.putfield 108, 3) := by decide +kernel
theorem d_M_cycle_31 : decode c_M_cycle 31 = .ok (.iconst 0, 1) := by decide +kernel
theorem d_M_cycle_32 : decode c_M_cycle 32 = .ok (.istore_n 3, 1) := by decide +kernel
theorem d_M_cycle_33 : decode c_M_cycle 33 = .ok (.iconst 1, 1) := by decide +kernel
theorem d_M_cycle_34 : decode c_M_cycle 34 = .ok (.istore 4, 2) := by decide +kernel
theorem d_M_cycle_36 : decode c_M_cycle 36 = .ok (.iload 4, 2) := by decide +kernel
theorem d_M_cycle_38 : decode c_M_cycle 38 = .ok (.aload_n 0, 1) := by decide +kernel
theorem d_M_cycle_39 : decode c_M_cycle 39 = .ok (.getfield 70, 3) := by decide +kernel
theorem d_M_cycle_42 : decode c_M_cycle 42 = .ok (.if_icmp .gt 49, 3) := by decide +kernel
theorem d_M_cycle_45 : decode c_M_cycle 45 = .ok (.aload_n 0, 1) := by decide +kernel
theorem d_M_cycle_46 : decode c_M_cycle 46 = .ok (.getfield 19, 3) := by decide +kernel
theorem d_M_cycle_49 : decode c_M_cycle 49 = .ok (.iload 4, 2) := by decide +kernel
theorem d_M_cycle_51 : decode c_M_cycle 51 = .ok (.iaload, 1) := by decide +kernel
theorem d_M_cycle_52 : decode c_M_cycle 52 = .ok (.iconst 2, 1) := by decide +kernel
theorem d_M_cycle_53 : decode c_M_cycle 53 = .ok (.if_icmp .ge 9, 3) := by decide +kernel
theorem d_M_cycle_56 : decode c_M_cycle 56 = .ok (.aload_n 0, 1) := by decide +kernel
theorem d_M_cycle_57 : decode c_M_cycle 57 = .ok (.iload 4, 2) := by decide +kernel
theorem d_M_cycle_59 : decode c_M_cycle 59 = .ok (.invokevirtual 129, 3) := by decide +kernel
theorem d_M_cycle_62 : decode c_M_cycle 62 = .ok (.aload_n 0, 1) := by decide +kernel
theorem d_M_cycle_63 : decode c_M_cycle 63 = .ok (.getfield 19, 3) := by decide +kernel
theorem d_M_cycle_66 : decode c_M_cycle 66 = .ok (.iload 4, 2) := by decide +kernel
theorem d_M_cycle_68 : decode c_M_cycle 68 = .ok (.iaload, 1) := by decide +kernel
theorem d_M_cycle_69 : decode c_M_cycle 69 = .ok (.iload_n 3, 1) := by decide +kernel
theorem d_M_cycle_70 : decode c_M_cycle 70 = .ok (.if_icmp .le 13, 3) := by decide +kernel
theorem d_M_cycle_73 : decode c_M_cycle 73 = .ok (.aload_n 0, 1) := by decide +kernel
theorem d_M_cycle_74 : decode c_M_cycle 74 = .ok (.getfield 19, 3) := by decide +kernel
theorem d_M_cycle_77 : decode c_M_cycle 77 = .ok (.iload 4, 2) := by decide +kernel
theorem d_M_cycle_79 : decode c_M_cycle 79 = .ok (.iaload, 1) := by decide +kernel
theorem d_M_cycle_80 : decode c_M_cycle 80 = .ok (.goto 4, 3) := by decide +kernel
theorem d_M_cycle_83 : decode c_M_cycle 83 = .ok (.iload_n 3, 1) := by decide +kernel
theorem d_M_cycle_84 : decode c_M_cycle 84 = .ok (.istore_n 3, 1) := by decide +kernel
theorem d_M_cycle_85 : decode c_M_cycle 85 = .ok (.iinc 4 1, 3) := by decide +kernel
theorem d_M_cycle_88 : decode c_M_cycle 88 = .ok (.goto (-52), 3) := by decide +kernel
theorem d_M_cycle_91 : decode c_M_cycle 91 = .ok (.aload_n 0, 1) := by decide +kernel
theorem d_M_cycle_92 : decode c_M_cycle 92 = .ok (.iload_n 3, 1) := by decide +kernel
theorem d_M_cycle_93 : decode c_M_cycle 93 = .ok (.iconst 2, 1) := by decide +kernel
theorem d_M_cycle_94 : decode c_M_cycle 94 = .ok (.if_icmp .ne 12, 3) := by decide +kernel
theorem d_M_cycle_97 : decode c_M_cycle 97 = .ok (.aload_n 0, 1) := by decide +kernel
theorem d_M_cycle_98 : decode c_M_cycle 98 = .ok (.getfield 111, 3) := by decide +kernel
theorem d_M_cycle_101 : decode c_M_cycle 101 = .ok (.iconst 1, 1) := by decide +kernel
theorem d_M_cycle_102 : decode c_M_cycle 102 = .ok (.iadd, 1) := by decide +kernel
theorem d_M_cycle_103 : decode c_M_cycle 103 = .ok (.goto 4, 3) := by decide +kernel
theorem d_M_cycle_106 : decode c_M_cycle 106 = .ok (.iconst 0, 1) := by decide +kernel
theorem d_M_cycle_107 : decode c_M_cycle 107 = .ok (.putfield 111, 3) := by decide +kernel
theorem d_M_cycle_110 : decode c_M_cycle 110 = .ok (.aload_n 0, 1) := by decide +kernel
theorem d_M_cycle_111 : decode c_M_cycle 111 = .ok (.getfield 111, 3) := by decide +kernel
theorem d_M_cycle_114 : decode c_M_cycle 114 = .ok (.aload_n 0, 1) := by decide +kernel
theorem d_M_cycle_115 : decode c_M_cycle 115 = .ok (.getfield 132, 3) := by decide +kernel
theorem d_M_cycle_118 : decode c_M_cycle 118 = .ok (.if_icmp .gt 5, 3) := by decide +kernel
theorem d_M_cycle_121 : decode c_M_cycle 121 = .ok (.iload_n 3, 1) := by decide +kernel
theorem d_M_cycle_122 : decode c_M_cycle 122 = .ok (.ireturn, 1) := by decide +kernel
theorem d_M_cycle_123 : decode c_M_cycle 123 = .ok (.aload_n 0, 1) := by decide +kernel
theorem d_M_cycle_124 : decode c_M_cycle 124 = .ok (.iconst 1, 1) := by decide +kernel
theorem d_M_cycle_125 : decode c_M_cycle 125 = .ok (.invokevirtual 135, 3) := by decide +kernel
theorem d_M_cycle_128 : decode c_M_cycle 128 = .ok (.iconst 3, 1) := by decide +kernel
theorem d_M_cycle_129 : decode c_M_cycle 129 = .ok (.ireturn, 1) := by decide +kernel
theorem d_M_tolerance_0 : decode c_M_tolerance 0 = .ok (.aload_n 0, 1) := by decide +kernel
theorem d_M_tolerance_1 : decode c_M_tolerance 1 = .ok (.iconst 0, 1) := by decide +kernel
theorem d_M_tolerance_2 : decode c_M_tolerance 2 = .ok (.putfield 66, 3) := by decide +kernel
theorem d_M_tolerance_5 : decode c_M_tolerance 5 = .ok (.iload_n 1, 1) := by decide +kernel
theorem d_M_tolerance_6 : decode c_M_tolerance 6 = .ok (.ifCond .eq 13, 3) := by decide +kernel
theorem d_M_tolerance_9 : decode c_M_tolerance 9 = .ok (.aload_n 0, 1) := by decide +kernel
theorem d_M_tolerance_10 : decode c_M_tolerance 10 = .ok (.iload_n 1, 1) := by decide +kernel
theorem d_M_tolerance_11 : decode c_M_tolerance 11 = .ok (.invokevirtual 84, 3) := by decide +kernel
theorem d_M_tolerance_14 : decode c_M_tolerance 14 = .ok (.ifCond .ne 5, 3) := by decide +kernel
theorem d_M_tolerance_17 : decode c_M_tolerance 17 = .ok (.iconst (-1), 1) := by decide +kernel
theorem d_M_tolerance_18 : decode c_M_tolerance 18 = .ok (.ireturn, 1) := by decide +kernel
theorem d_M_tolerance_19 : decode c_M_tolerance 19 = .ok (.iload_n 2, 1) := by decide +kernel
theorem d_M_tolerance_20 : decode c_M_tolerance 20 = .ok (.ifCond .lt 9, 3) := by decide +kernel
theorem d_M_tolerance_23 : decode c_M_tolerance 23 = .ok (.iload_n 2, 1) := by decide +kernel
theorem d_M_tolerance_24 : decode c_M_tolerance 24 = .ok (.bipush 100, 2) := by decide +kernel
theorem d_M_tolerance_26 : decode c_M_tolerance 26 = .ok (.if_icmp .le 6, 3) := by decide +kernel
theorem d_M_tolerance_29 : decode c_M_tolerance 29 = .ok (.bipush (-2), 2) := by decide +kernel
theorem d_M_tolerance_31 : decode c_M_tolerance 31 = .ok (.ireturn, 1) := by decide +kernel
theorem d_M_tolerance_32 : decode c_M_tolerance 32 = .ok (.iload_n 1, 1) := by decide +kernel
theorem d_M_tolerance_33 : decode c_M_tolerance 33 = .ok (.ifCond .ne 11, 3) := by decide +kernel
theorem d_M_tolerance_36 : decode c_M_tolerance 36 = .ok (.aload_n 0, 1) := by decide +kernel
theorem d_M_tolerance_37 : decode c_M_tolerance 37 = .ok (.iload_n 2, 1) := by decide +kernel
theorem d_M_tolerance_38 : decode c_M_tolerance 38 = .ok (.putfield 132, 3) := by decide +kernel
theorem d_M_tolerance_41 : decode c_M_tolerance 41 = .ok (.goto 10, 3) := by decide +kernel
theorem d_M_tolerance_44 : decode c_M_tolerance 44 = .ok (.aload_n 0, 1) := by decide +kernel
theorem d_M_tolerance_45 : decode c_M_tolerance 45 = .ok (.getfield 25, 3) := by decide +kernel
theorem d_M_tolerance_48 : decode c_M_tolerance 48 = .ok (.iload_n 1, 1) := by decide +kernel
theorem d_M_tolerance_49 : decode c_M_tolerance 49 = .ok (.iload_n 2, 1) := by decide +kernel
theorem d_M_tolerance_50 : decode c_M_tolerance 50 = .ok (.iastore, 1) := by decide +kernel
theorem d_M_tolerance_51 : decode c_M_tolerance 51 = .ok (.iconst 1, 1) := by decide +kernel
theorem d_M_tolerance_52 : decode c_M_tolerance 52 = .ok (.ireturn, 1) := by decide +kernel
theorem d_M_answer_0 : decode c_M_answer 0 = .ok (.aload_n 0, 1) := by decide +kernel
theorem d_M_answer_1 : decode c_M_answer 1 = .ok (.iconst 0, 1) := by decide +kernel
theorem d_M_answer_2 : decode c_M_answer 2 = .ok (.putfield 66, 3) := by decide +kernel
theorem d_M_answer_5 : decode c_M_answer 5 = .ok (.iload_n 1, 1) := by decide +kernel
theorem d_M_answer_6 : decode c_M_answer 6 = .ok (.ifCond .lt 17, 3) := by decide +kernel
theorem d_M_answer_9 : decode c_M_answer 9 = .ok (.iload_n 1, 1) := by decide +kernel
theorem d_M_answer_10 : decode c_M_answer 10 = .ok (.iconst 3, 1) := by decide +kernel
theorem d_M_answer_11 : decode c_M_answer 11 = .ok (.if_icmp .gt 12, 3) := by decide +kernel
theorem d_M_answer_14 : decode c_M_answer 14 = .ok (.aload_n 0, 1) := by decide +kernel
theorem d_M_answer_15 : decode c_M_answer 15 = .ok (.lload 4, 2) := by decide +kernel
theorem d_M_answer_17 : decode c_M_answer 17 = .ok (.invokevirtual 94, 3) := by decide +kernel
theorem d_M_answer_20 : decode c_M_answer 20 = .ok (.ifCond .ne 6, 3) := by decide +kernel
theorem d_M_answer_23 : decode c_M_answer 23 = .ok (.bipush (-2), 2) := by decide +kernel
theorem d_M_answer_25 : decode c_M_answer 25 = .ok (.ireturn, 1) := by decide +kernel
theorem d_M_answer_26 : decode c_M_answer 26 = .ok (.aload_n 0, 1) := by decide +kernel
theorem d_M_answer_27 : decode c_M_answer 27 = .ok (.lload 4, 2) := by decide +kernel
theorem d_M_answer_29 : decode c_M_answer 29 = .ok (.putfield 73, 3) := by decide +kernel
theorem d_M_answer_32 : decode c_M_answer 32 = .ok (.iconst 5, 1) := by decide +kernel
theorem d_M_answer_33 : decode c_M_answer 33 = .ok (.aload_n 0, 1) := by decide +kernel
theorem d_M_answer_34 : decode c_M_answer 34 = .ok (.getfield 114, 3) := by decide +kernel
theorem d_M_answer_37 : decode c_M_answer 37 = .ok (.imul, 1) := by decide +kernel
theorem d_M_answer_38 : decode c_M_answer 38 = .ok (.iconst 3, 1) := by decide +kernel
theorem d_M_answer_39 : decode c_M_answer 39 = .ok (.iload_n 1, 1) := by decide +kernel
theorem d_M_answer_40 : decode c_M_answer 40 = .ok (.imul, 1) := by decide +kernel
theorem d_M_answer_41 : decode c_M_answer 41 = .ok (.iadd, 1) := by decide +kernel
theorem d_M_answer_42 : decode c_M_answer 42 = .ok (.bipush 10, 2) := by decide +kernel
theorem d_M_answer_44 : decode c_M_answer 44 = .ok (.ixor, 1) := by decide +kernel
theorem d_M_answer_45 : decode c_M_answer 45 = .ok (.bipush 16, 2) := by decide +kernel
theorem d_M_answer_47 : decode c_M_answer 47 = .ok (.irem, 1) := by decide +kernel
theorem d_M_answer_48 : decode c_M_answer 48 = .ok (.istore 6, 2) := by decide +kernel
theorem d_M_answer_50 : decode c_M_answer 50 = .ok (.iload_n 1, 1) := by decide +kernel
theorem d_M_answer_51 : decode c_M_answer 51 = .ok (.aload_n 0, 1) := by decide +kernel
theorem d_M_answer_52 : decode c_M_answer 52 = .ok (.getfield 117, 3) := by decide +kernel
theorem d_M_answer_55 : decode c_M_answer 55 = .ok (.if_icmp .ne 15, 3) := by decide +kernel
theorem d_M_answer_58 : decode c_M_answer 58 = .ok (.lload_n 2, 1) := by decide +kernel
theorem d_M_answer_59 : decode c_M_answer 59 = .ok (.iload 6, 2) := by decide +kernel
theorem d_M_answer_61 : decode c_M_answer 61 = .ok (.i2l, 1) := by decide +kernel
theorem d_M_answer_62 : decode c_M_answer 62 = .ok (.lcmp, 1) := by decide +kernel
theorem d_M_answer_63 : decode c_M_answer 63 = .ok (.ifCond .ne 7, 3) := by decide +kernel
theorem d_M_answer_66 : decode c_M_answer 66 = .ok (.iconst 1, 1) := by decide +kernel
theorem d_M_answer_67 : decode c_M_answer 67 = .ok (.goto 4, 3) := by decide +kernel
theorem d_M_answer_70 : decode c_M_answer 70 = .ok (.iconst 0, 1) := by decide +kernel
theorem d_M_answer_71 : decode c_M_answer 71 = .ok (.istore 7, 2) := by decide +kernel
theorem d_M_answer_73 : decode c_M_answer 73 = .ok (.iload_n 1, 1) := by decide +kernel
theorem d_M_answer_74 : decode c_M_answer 74 = .ok (.iconst 3, 1) := by decide +kernel
theorem d_M_answer_75 : decode c_M_answer 75 = .ok (.if_icmp .ne 43, 3) := by decide +kernel
theorem d_M_answer_78 : decode c_M_answer 78 = .ok (.iload 7, 2) := by decide +kernel
theorem d_M_answer_80 : decode c_M_answer 80 = .ok (.ifCond .eq 35, 3) := by decide +kernel
theorem d_M_answer_83 : decode c_M_answer 83 = .ok (.lload 4, 2) := by decide +kernel
theorem d_M_answer_85 : decode c_M_answer 85 = .ok (.aload_n 0, 1) := by decide +kernel
theorem d_M_answer_86 : decode c_M_answer 86 = .ok (.getfield 123, 3) := by decide +kernel
theorem d_M_answer_89 : decode c_M_answer 89 = .ok (.lsub, 1) := by decide +kernel
theorem d_M_answer_90 : decode c_M_answer 90 = .ok (.ldc2_w 138, 3) := by decide +kernel
theorem d_M_answer_93 : decode c_M_answer 93 = .ok (.lcmp, 1) := by decide +kernel
theorem d_M_answer_94 : decode c_M_answer 94 = .ok (.ifCond .lt 21, 3) := by decide +kernel
theorem d_M_answer_97 : decode c_M_answer 97 = .ok (.lload 4, 2) := by decide +kernel
theorem d_M_answer_99 : decode c_M_answer 99 = .ok (.aload_n 0, 1) := by decide +kernel
theorem d_M_answer_100 : decode c_M_answer 100 = .ok (.getfield 123, 3) := by decide +kernel
theorem d_M_answer_103 : decode c_M_answer 103 = .ok (.lsub, 1) := by decide +kernel
theorem d_M_answer_104 : decode c_M_answer 104 = .ok (.ldc2_w 140, 3) := by decide +kernel
theorem d_M_answer_107 : decode c_M_answer 107 = .ok (.lcmp, 1) := by decide +kernel
theorem d_M_answer_108 : decode c_M_answer 108 = .ok (.ifCond .gt 7, 3) := by decide +kernel
theorem d_M_answer_111 : decode c_M_answer 111 = .ok (.iconst 1, 1) := by decide +kernel
theorem d_M_answer_112 : decode c_M_answer 112 = .ok (.goto 4, 3) := by decide +kernel
theorem d_M_answer_115 : decode c_M_answer 115 = .ok (.iconst 0, 1) := by decide +kernel
theorem d_M_answer_116 : decode c_M_answer 116 = .ok (.istore 7, 2) := by decide +kernel
theorem d_M_answer_118 : decode c_M_answer 118 = .ok (.iload 7, 2) := by decide +kernel
theorem d_M_answer_120 : decode c_M_answer 120 = .ok (.ifCond .ne 40, 3) := by decide +kernel
theorem d_M_answer_123 : decode c_M_answer 123 = .ok (.aload_n 0, 1) := by decide +kernel
theorem d_M_answer_124 : decode c_M_answer 124 = .ok (.dup, 1) := by decide +kernel
theorem d_M_answer_125 : decode c_M_answer 125 = .ok (.getfield 120, 3) := by decide +kernel
theorem d_M_answer_128 : decode c_M_answer 128 = .ok (.iconst 1, 1) := by decide +kernel
theorem d_M_answer_129 : decode c_M_answer 129 = .ok (.iadd, 1) := by decide +kernel
theorem d_M_answer_130 : decode c_M_answer 130 = .ok (.putfield 120, 3) := by decide +kernel
theorem d_M_answer_133 : decode c_M_answer 133 = .ok (.aload_n 0, 1) := by decide +kernel
theorem d_M_answer_134 : decode c_M_answer 134 = .ok (.iconst 0, 1) := by decide +kernel
theorem d_M_answer_135 : decode c_M_answer 135 = .ok (.putfield 117, 3) := by decide +kernel
theorem d_M_answer_138 : decode c_M_answer 138 = .ok (.aload_n 0, 1) := by decide +kernel
theorem d_M_answer_139 : decode c_M_answer 139 = .ok (.lload 4, 2) := by decide +kernel
theorem d_M_answer_141 : decode c_M_answer 141 = .ok (.putfield 123, 3) := by decide +kernel
theorem d_M_answer_144 : decode c_M_answer 144 = .ok (.aload_n 0, 1) := by decide +kernel
theorem d_M_answer_145 : decode c_M_answer 145 = .ok (.getfield 120, 3) := by decide +kernel
theorem d_M_answer_148 : decode c_M_answer 148 = .ok (.bipush 8, 2) := by decide +kernel
theorem d_M_answer_150 : decode c_M_answer 150 = .ok (.if_icmp .ne 8, 3) := by decide +kernel
theorem d_M_answer_153 : decode c_M_answer 153 = .ok (.aload_n 0, 1) := by decide +kernel
theorem d_M_answer_154 : decode c_M_answer 154 = .ok (.iconst 2, 1) := by decide +kernel
theorem d_M_answer_155 : decode c_M_answer 155 = .ok (.invokevirtual 135, 3) := by decide +kernel
theorem d_M_answer_158 : decode c_M_answer 158 = .ok (.iconst 0, 1) := by decide +kernel
theorem d_M_answer_159 : decode c_M_answer 159 = .ok (.ireturn, 1) := by decide +kernel
theorem d_M_answer_160 : decode c_M_answer 160 = .ok (.aload_n 0, 1) := by decide +kernel
theorem d_M_answer_161 : decode c_M_answer 161 = .ok (.dup, 1) := by decide +kernel
theorem d_M_answer_162 : decode c_M_answer 162 = .ok (.getfield 117, 3) := by decide +kernel
theorem d_M_answer_165 : decode c_M_answer 165 = .ok (.iconst 1, 1) := by decide +kernel
theorem d_M_answer_166 : decode c_M_answer 166 = .ok (.iadd, 1) := by decide +kernel
theorem d_M_answer_167 : decode c_M_answer 167 = .ok (.putfield 117, 3) := by decide +kernel
theorem d_M_answer_170 : decode c_M_answer 170 = .ok (.aload_n 0, 1) := by decide +kernel
theorem d_M_answer_171 : decode c_M_answer 171 = .ok (.getfield 117, 3) := by decide +kernel
theorem d_M_answer_174 : decode c_M_answer 174 = .ok (.iconst 4, 1) := by decide +kernel
theorem d_M_answer_175 : decode c_M_answer 175 = .ok (.if_icmp .ge 5, 3) := by decide +kernel
theorem d_M_answer_178 : decode c_M_answer 178 = .ok (.iconst 1, 1) := by decide +kernel
theorem d_M_answer_179 : decode c_M_answer 179 = .ok (.ireturn, 1) := by decide +kernel
theorem d_M_answer_180 : decode c_M_answer 180 = .ok (.aload_n 0, 1) := by decide +kernel
theorem d_M_answer_181 : decode c_M_answer 181 = .ok (.iconst 0, 1) := by decide +kernel
theorem d_M_answer_182 : decode c_M_answer 182 = .ok (.putfield 117, 3) := by decide +kernel
theorem d_M_answer_185 : decode c_M_answer 185 = .ok (.aload_n 0, 1) := by decide +kernel
theorem d_M_answer_186 : decode c_M_answer 186 = .ok (.lload 4, 2) := by decide +kernel
theorem d_M_answer_188 : decode c_M_answer 188 = .ok (.putfield 123, 3) := by decide +kernel
theorem d_M_answer_191 : decode c_M_answer 191 = .ok (.aload_n 0, 1) := by decide +kernel
theorem d_M_answer_192 : decode c_M_answer 192 = .ok (.aload_n 0, 1) := by decide +kernel
theorem d_M_answer_193 : decode c_M_answer 193 = .ok (.getfield 120, 3) := by decide +kernel
theorem d_M_answer_196 : decode c_M_answer 196 = .ok (.ifCond .le 12, 3) := by decide +kernel
theorem d_M_answer_199 : decode c_M_answer 199 = .ok (.aload_n 0, 1) := by decide +kernel
theorem d_M_answer_200 : decode c_M_answer 200 = .ok (.getfield 120, 3) := by decide +kernel
theorem d_M_answer_203 : decode c_M_answer 203 = .ok (.iconst 1, 1) := by decide +kernel
theorem d_M_answer_204 : decode c_M_answer 204 = .ok (.isub, 1) := by decide +kernel
theorem d_M_answer_205 : decode c_M_answer 205 = .ok (.goto 4, 3) := by decide +kernel
theorem d_M_answer_208 : decode c_M_answer 208 = .ok (.iconst 0, 1) := by decide +kernel
theorem d_M_answer_209 : decode c_M_answer 209 = .ok (.putfield 120, 3) := by decide +kernel
theorem d_M_answer_212 : decode c_M_answer 212 = .ok (.aload_n 0, 1) := by decide +kernel
theorem d_M_answer_213 : decode c_M_answer 213 = .ok (.bipush 7, 2) := by decide +kernel
theorem d_M_answer_215 : decode c_M_answer 215 = .ok (.aload_n 0, 1) := by decide +kernel
theorem d_M_answer_216 : decode c_M_answer 216 = .ok (.getfield 114, 3) := by decide +kernel
theorem d_M_answer_219 : decode c_M_answer 219 = .ok (.imul, 1) := by decide +kernel
theorem d_M_answer_220 : decode c_M_answer 220 = .ok (.iconst 3, 1) := by decide +kernel
theorem d_M_answer_221 : decode c_M_answer 221 = .ok (.iadd, 1) := by decide +kernel
theorem d_M_answer_222 : decode c_M_answer 222 = .ok (.bipush 16, 2) := by decide +kernel
theorem d_M_answer_224 : decode c_M_answer 224 = .ok (.irem, 1) := by decide +kernel
theorem d_M_answer_225 : decode c_M_answer 225 = .ok (.putfield 114, 3) := by decide +kernel
theorem d_M_answer_228 : decode c_M_answer 228 = .ok (.iconst 1, 1) := by decide +kernel
theorem d_M_answer_229 : decode c_M_answer 229 = .ok (.ireturn, 1) := by decide +kernel
theorem d_M_mode_0 : decode c_M_mode 0 = .ok (.aload_n 0, 1) := by decide +kernel
theorem d_M_mode_1 : decode c_M_mode 1 = .ok (.iconst 0, 1) := by decide +kernel
theorem d_M_mode_2 : decode c_M_mode 2 = .ok (.putfield 66, 3) := by decide +kernel
theorem d_M_mode_5 : decode c_M_mode 5 = .ok (.iload_n 1, 1) := by decide +kernel
theorem d_M_mode_6 : decode c_M_mode 6 = .ok (.ifCond .lt 8, 3) := by decide +kernel
theorem d_M_mode_9 : decode c_M_mode 9 = .ok (.iload_n 1, 1) := by decide +kernel
theorem d_M_mode_10 : decode c_M_mode 10 = .ok (.iconst 3, 1) := by decide +kernel
theorem d_M_mode_11 : decode c_M_mode 11 = .ok (.if_icmp .le 6, 3) := by decide +kernel
theorem d_M_mode_14 : decode c_M_mode 14 = .ok (.bipush (-2), 2) := by decide +kernel
theorem d_M_mode_16 : decode c_M_mode 16 = .ok (.ireturn, 1) := by decide +kernel
theorem d_M_mode_17 : decode c_M_mode 17 = .ok (.aload_n 0, 1) := by decide +kernel
theorem d_M_mode_18 : decode c_M_mode 18 = .ok (.getfield 81, 3) := by decide +kernel
theorem d_M_mode_21 : decode c_M_mode 21 = .ok (.istore_n 2, 1) := by decide +kernel
theorem d_M_mode_22 : decode c_M_mode 22 = .ok (.aload_n 0, 1) := by decide +kernel
theorem d_M_mode_23 : decode c_M_mode 23 = .ok (.iload_n 1, 1) := by decide +kernel
theorem d_M_mode_24 : decode c_M_mode 24 = .ok (.putfield 81, 3) := by decide +kernel
theorem d_M_mode_27 : decode c_M_mode 27 = .ok (.iconst 1, 1) := by decide +kernel
theorem d_M_mode_28 : decode c_M_mode 28 = .ok (.istore_n 3, 1) := by decide +kernel
theorem d_M_mode_29 : decode c_M_mode 29 = .ok (.iload_n 3, 1) := by decide +kernel
theorem d_M_mode_30 : decode c_M_mode 30 = .ok (.aload_n 0, 1) := by decide +kernel
theorem d_M_mode_31 : decode c_M_mode 31 = .ok (.getfield 70, 3) := by decide +kernel
theorem d_M_mode_34 : decode c_M_mode 34 = .ok (.if_icmp .gt 19, 3) := by decide +kernel
theorem d_M_mode_37 : decode c_M_mode 37 = .ok (.iload_n 2, 1) := by decide +kernel
theorem d_M_mode_38 : decode c_M_mode 38 = .ok (.iload_n 1, 1) := by decide +kernel
theorem d_M_mode_39 : decode c_M_mode 39 = .ok (.if_icmp .eq 14, 3) := by decide +kernel
theorem d_M_mode_42 : decode c_M_mode 42 = .ok (.aload_n 0, 1) := by decide +kernel
theorem d_M_mode_43 : decode c_M_mode 43 = .ok (.iload_n 3, 1) := by decide +kernel
theorem d_M_mode_44 : decode c_M_mode 44 = .ok (.invokevirtual 104, 3) := by decide +kernel
theorem d_M_mode_47 : decode c_M_mode 47 = .ok (.iinc 3 1, 3) := by decide +kernel
theorem d_M_mode_50 : decode c_M_mode 50 = .ok (.goto (-21), 3) := by decide +kernel
theorem d_M_mode_53 : decode c_M_mode 53 = .ok (.iload_n 2, 1) := by decide +kernel
theorem d_M_mode_54 : decode c_M_mode 54 = .ok (.ireturn, 1) := by decide +kernel
theorem d_M_reset_0 : decode c_M_reset 0 = .ok (.aload_n 0, 1) := by decide +kernel
theorem d_M_reset_1 : decode c_M_reset 1 = .ok (.iconst 0, 1) := by decide +kernel
theorem d_M_reset_2 : decode c_M_reset 2 = .ok (.putfield 66, 3) := by decide +kernel
theorem d_M_reset_5 : decode c_M_reset 5 = .ok (.iload_n 1, 1) := by decide +kernel
theorem d_M_reset_6 : decode c_M_reset 6 = .ok (.ifCond .lt 8, 3) := by decide +kernel
theorem d_M_reset_9 : decode c_M_reset 9 = .ok (.iload_n 1, 1) := by decide +kernel
theorem d_M_reset_10 : decode c_M_reset 10 = .ok (.iconst 5, 1) := by decide +kernel
theorem d_M_reset_11 : decode c_M_reset 11 = .ok (.if_icmp .le 6, 3) := by decide +kernel
theorem d_M_reset_14 : decode c_M_reset 14 = .ok (.bipush (-2), 2) := by decide +kernel
theorem d_M_reset_16 : decode c_M_reset 16 = .ok (.ireturn, 1) := by decide +kernel
theorem d_M_reset_17 : decode c_M_reset 17 = .ok (.iload_n 1, 1) := by decide +kernel
theorem d_M_reset_18 : decode c_M_reset 18 = .ok (.ifCond .ne 8, 3) := by decide +kernel
theorem d_M_reset_21 : decode c_M_reset 21 = .ok (.aload_n 0, 1) := by decide +kernel
theorem d_M_reset_22 : decode c_M_reset 22 = .ok (.iconst 4, 1) := by decide +kernel
theorem d_M_reset_23 : decode c_M_reset 23 = .ok (.invokevirtual 135, 3) := by decide +kernel
theorem d_M_reset_26 : decode c_M_reset 26 = .ok (.iload_n 1, 1) := by decide +kernel
theorem d_M_reset_27 : decode c_M_reset 27 = .ok (.iconst 2, 1) := by decide +kernel
theorem d_M_reset_28 : decode c_M_reset 28 = .ok (.if_icmp .ge 10, 3) := by decide +kernel
theorem d_M_reset_31 : decode c_M_reset 31 = .ok (.aload_n 0, 1) := by decide +kernel
theorem d_M_reset_32 : decode c_M_reset 32 = .ok (.getfield 101, 3) := by decide +kernel
theorem d_M_reset_35 : decode c_M_reset 35 = .ok (.goto 43, 3) := by decide +kernel
theorem d_M_reset_38 : decode c_M_reset 38 = .ok (.iload_n 1, 1) := by decide +kernel
theorem d_M_reset_39 : decode c_M_reset 39 = .ok (.iconst 2, 1) := by decide +kernel
theorem d_M_reset_40 : decode c_M_reset 40 = .ok (.if_icmp .ne 10, 3) := by decide +kernel
theorem d_M_reset_43 : decode c_M_reset 43 = .ok (.aload_n 0, 1) := by decide +kernel
theorem d_M_reset_44 : decode c_M_reset 44 = .ok (.getfield 98, 3) := by decide +kernel
theorem d_M_reset_47 : decode c_M_reset 47 = .ok (.goto 31, 3) := by decide +kernel
theorem d_M_reset_50 : decode c_M_reset 50 = .ok (.iload_n 1, 1) := by decide +kernel
theorem d_M_reset_51 : decode c_M_reset 51 = .ok (.iconst 3, 1) := by decide +kernel
theorem d_M_reset_52 : decode c_M_reset 52 = .ok (.if_icmp .ne 10, 3) := by decide +kernel
theorem d_M_reset_55 : decode c_M_reset 55 = .ok (.aload_n 0, 1) := by decide +kernel
theorem d_M_reset_56 : decode c_M_reset 56 = .ok (.getfield 114, 3) := by decide +kernel
theorem d_M_reset_59 : decode c_M_reset 59 = .ok (.goto 19, 3) := by decide +kernel
theorem d_M_reset_62 : decode c_M_reset 62 = .ok (.iload_n 1, 1) := by decide +kernel
theorem d_M_reset_63 : decode c_M_reset 63 = .ok (.iconst 4, 1) := by decide +kernel
theorem d_M_reset_64 : decode c_M_reset 64 = .ok (.if_icmp .ne 10, 3) := by decide +kernel
theorem d_M_reset_67 : decode c_M_reset 67 = .ok (.aload_n 0, 1) := by decide +kernel
theorem d_M_reset_68 : decode c_M_reset 68 = .ok (.getfield 120, 3) := by decide +kernel
theorem d_M_reset_71 : decode c_M_reset 71 = .ok (.goto 7, 3) := by decide +kernel
theorem d_M_reset_74 : decode c_M_reset 74 = .ok (.aload_n 0, 1) := by decide +kernel
theorem d_M_reset_75 : decode c_M_reset 75 = .ok (.getfield 108, 3) := by decide +kernel
theorem d_M_reset_78 : decode c_M_reset 78 = .ok (.ireturn, 1) := by decide +kernel
theorem d_M_outer_0 : decode c_M_outer 0 = .ok (.aload_n 0, 1) := by decide +kernel

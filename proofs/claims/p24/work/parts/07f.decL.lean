theorem dL_acts_0 : decode cL_acts 0 = .ok (.iload 5, 2) := by decide +kernel
theorem dL_acts_2 : decode cL_acts 2 = .ok (.bipush 24, 2) := by decide +kernel
theorem dL_acts_4 : decode cL_acts 4 = .ok (.invokestatic 132, 3) := by decide +kernel
theorem dL_acts_7 : decode cL_acts 7 = .ok (.istore 7, 2) := by decide +kernel
theorem dL_acts_9 : decode cL_acts 9 = .ok (.iload 6, 2) := by decide +kernel
theorem dL_acts_11 : decode cL_acts 11 = .ok (.iconst 5, 1) := by decide +kernel
theorem dL_acts_12 : decode cL_acts 12 = .ok (.invokestatic 132, 3) := by decide +kernel
theorem dL_acts_15 : decode cL_acts 15 = .ok (.istore 8, 2) := by decide +kernel
theorem dL_acts_17 : decode cL_acts 17 = .ok (.iload 5, 2) := by decide +kernel
theorem dL_acts_19 : decode cL_acts 19 = .ok (.iconst 5, 1) := by decide +kernel
theorem dL_acts_20 : decode cL_acts 20 = .ok (.ishr, 1) := by decide +kernel
theorem dL_acts_21 : decode cL_acts 21 = .ok (.iconst 4, 1) := by decide +kernel
theorem dL_acts_22 : decode cL_acts 22 = .ok (.invokestatic 132, 3) := by decide +kernel
theorem dL_acts_25 : decode cL_acts 25 = .ok (.istore 9, 2) := by decide +kernel
theorem dL_acts_27 : decode cL_acts 27 = .ok (.iload 5, 2) := by decide +kernel
theorem dL_acts_29 : decode cL_acts 29 = .ok (.bipush 7, 2) := by decide +kernel
theorem dL_acts_31 : decode cL_acts 31 = .ok (.ishr, 1) := by decide +kernel
theorem dL_acts_32 : decode cL_acts 32 = .ok (.iconst 3, 1) := by decide +kernel
theorem dL_acts_33 : decode cL_acts 33 = .ok (.invokestatic 132, 3) := by decide +kernel
theorem dL_acts_36 : decode cL_acts 36 = .ok (.istore 10, 2) := by decide +kernel
theorem dL_acts_38 : decode cL_acts 38 = .ok (.iload 7, 2) := by decide +kernel
theorem dL_acts_40 : decode cL_acts 40 = .ok (.iconst 3, 1) := by decide +kernel
theorem dL_acts_41 : decode cL_acts 41 = .ok (.if_icmp .ge 278, 3) := by decide +kernel
theorem dL_acts_44 : decode cL_acts 44 = .ok (.bipush 9, 2) := by decide +kernel
theorem dL_acts_46 : decode cL_acts 46 = .ok (.iload 10, 2) := by decide +kernel
theorem dL_acts_48 : decode cL_acts 48 = .ok (.imul, 1) := by decide +kernel
theorem dL_acts_49 : decode cL_acts 49 = .ok (.istore 11, 2) := by decide +kernel
theorem dL_acts_51 : decode cL_acts 51 = .ok (.aload_n 2, 1) := by decide +kernel
theorem dL_acts_52 : decode cL_acts 52 = .ok (.iload 11, 2) := by decide +kernel
theorem dL_acts_54 : decode cL_acts 54 = .ok (.iload 6, 2) := by decide +kernel
theorem dL_acts_56 : decode cL_acts 56 = .ok (.iconst 3, 1) := by decide +kernel
theorem dL_acts_57 : decode cL_acts 57 = .ok (.invokestatic 132, 3) := by decide +kernel
theorem dL_acts_60 : decode cL_acts 60 = .ok (.ifCond .ne 7, 3) := by decide +kernel
theorem dL_acts_63 : decode cL_acts 63 = .ok (.iconst 0, 1) := by decide +kernel
theorem dL_acts_64 : decode cL_acts 64 = .ok (.goto 12, 3) := by decide +kernel
theorem dL_acts_67 : decode cL_acts 67 = .ok (.iload 6, 2) := by decide +kernel
theorem dL_acts_69 : decode cL_acts 69 = .ok (.iconst 2, 1) := by decide +kernel
theorem dL_acts_70 : decode cL_acts 70 = .ok (.ishr, 1) := by decide +kernel
theorem dL_acts_71 : decode cL_acts 71 = .ok (.bipush 60, 2) := by decide +kernel
theorem dL_acts_73 : decode cL_acts 73 = .ok (.invokestatic 132, 3) := by decide +kernel
theorem dL_acts_76 : decode cL_acts 76 = .ok (.iastore, 1) := by decide +kernel
theorem dL_acts_77 : decode cL_acts 77 = .ok (.aload_n 2, 1) := by decide +kernel
theorem dL_acts_78 : decode cL_acts 78 = .ok (.iload 11, 2) := by decide +kernel
theorem dL_acts_80 : decode cL_acts 80 = .ok (.iconst 1, 1) := by decide +kernel
theorem dL_acts_81 : decode cL_acts 81 = .ok (.iadd, 1) := by decide +kernel
theorem dL_acts_82 : decode cL_acts 82 = .ok (.iload 6, 2) := by decide +kernel
theorem dL_acts_84 : decode cL_acts 84 = .ok (.iconst 4, 1) := by decide +kernel
theorem dL_acts_85 : decode cL_acts 85 = .ok (.ishr, 1) := by decide +kernel
theorem dL_acts_86 : decode cL_acts 86 = .ok (.iconst 3, 1) := by decide +kernel
theorem dL_acts_87 : decode cL_acts 87 = .ok (.invokestatic 132, 3) := by decide +kernel
theorem dL_acts_90 : decode cL_acts 90 = .ok (.ifCond .ne 16, 3) := by decide +kernel
theorem dL_acts_93 : decode cL_acts 93 = .ok (.iload 6, 2) := by decide +kernel
theorem dL_acts_95 : decode cL_acts 95 = .ok (.bipush 6, 2) := by decide +kernel
theorem dL_acts_97 : decode cL_acts 97 = .ok (.ishr, 1) := by decide +kernel
theorem dL_acts_98 : decode cL_acts 98 = .ok (.bipush 7, 2) := by decide +kernel
theorem dL_acts_100 : decode cL_acts 100 = .ok (.invokestatic 132, 3) := by decide +kernel
theorem dL_acts_103 : decode cL_acts 103 = .ok (.goto 4, 3) := by decide +kernel
theorem dL_acts_106 : decode cL_acts 106 = .ok (.iconst (-1), 1) := by decide +kernel
theorem dL_acts_107 : decode cL_acts 107 = .ok (.iastore, 1) := by decide +kernel
theorem dL_acts_108 : decode cL_acts 108 = .ok (.aload_n 2, 1) := by decide +kernel
theorem dL_acts_109 : decode cL_acts 109 = .ok (.iload 11, 2) := by decide +kernel
theorem dL_acts_111 : decode cL_acts 111 = .ok (.iconst 2, 1) := by decide +kernel
theorem dL_acts_112 : decode cL_acts 112 = .ok (.iadd, 1) := by decide +kernel
theorem dL_acts_113 : decode cL_acts 113 = .ok (.iload 6, 2) := by decide +kernel
theorem dL_acts_115 : decode cL_acts 115 = .ok (.bipush 9, 2) := by decide +kernel
theorem dL_acts_117 : decode cL_acts 117 = .ok (.ishr, 1) := by decide +kernel
theorem dL_acts_118 : decode cL_acts 118 = .ok (.iconst 3, 1) := by decide +kernel
theorem dL_acts_119 : decode cL_acts 119 = .ok (.invokestatic 132, 3) := by decide +kernel
theorem dL_acts_122 : decode cL_acts 122 = .ok (.ifCond .ne 16, 3) := by decide +kernel
theorem dL_acts_125 : decode cL_acts 125 = .ok (.iload 6, 2) := by decide +kernel
theorem dL_acts_127 : decode cL_acts 127 = .ok (.bipush 11, 2) := by decide +kernel
theorem dL_acts_129 : decode cL_acts 129 = .ok (.ishr, 1) := by decide +kernel
theorem dL_acts_130 : decode cL_acts 130 = .ok (.bipush 30, 2) := by decide +kernel
theorem dL_acts_132 : decode cL_acts 132 = .ok (.invokestatic 132, 3) := by decide +kernel
theorem dL_acts_135 : decode cL_acts 135 = .ok (.goto 4, 3) := by decide +kernel
theorem dL_acts_138 : decode cL_acts 138 = .ok (.iconst (-1), 1) := by decide +kernel
theorem dL_acts_139 : decode cL_acts 139 = .ok (.iastore, 1) := by decide +kernel
theorem dL_acts_140 : decode cL_acts 140 = .ok (.aload_n 2, 1) := by decide +kernel
theorem dL_acts_141 : decode cL_acts 141 = .ok (.iload 11, 2) := by decide +kernel
theorem dL_acts_143 : decode cL_acts 143 = .ok (.iconst 3, 1) := by decide +kernel
theorem dL_acts_144 : decode cL_acts 144 = .ok (.iadd, 1) := by decide +kernel
theorem dL_acts_145 : decode cL_acts 145 = .ok (.iload 6, 2) := by decide +kernel
theorem dL_acts_147 : decode cL_acts 147 = .ok (.bipush 16, 2) := by decide +kernel
theorem dL_acts_149 : decode cL_acts 149 = .ok (.ishr, 1) := by decide +kernel
theorem dL_acts_150 : decode cL_acts 150 = .ok (.iconst 3, 1) := by decide +kernel
theorem dL_acts_151 : decode cL_acts 151 = .ok (.invokestatic 132, 3) := by decide +kernel
theorem dL_acts_154 : decode cL_acts 154 = .ok (.ifCond .ne 16, 3) := by decide +kernel
theorem dL_acts_157 : decode cL_acts 157 = .ok (.iload 6, 2) := by decide +kernel
theorem dL_acts_159 : decode cL_acts 159 = .ok (.bipush 18, 2) := by decide +kernel
theorem dL_acts_161 : decode cL_acts 161 = .ok (.ishr, 1) := by decide +kernel
theorem dL_acts_162 : decode cL_acts 162 = .ok (.bipush 12, 2) := by decide +kernel
theorem dL_acts_164 : decode cL_acts 164 = .ok (.invokestatic 132, 3) := by decide +kernel
theorem dL_acts_167 : decode cL_acts 167 = .ok (.goto 4, 3) := by decide +kernel
theorem dL_acts_170 : decode cL_acts 170 = .ok (.iconst 0, 1) := by decide +kernel
theorem dL_acts_171 : decode cL_acts 171 = .ok (.iastore, 1) := by decide +kernel
theorem dL_acts_172 : decode cL_acts 172 = .ok (.aload_n 0, 1) := by decide +kernel
theorem dL_acts_173 : decode cL_acts 173 = .ok (.iload 10, 2) := by decide +kernel
theorem dL_acts_175 : decode cL_acts 175 = .ok (.aload_n 2, 1) := by decide +kernel
theorem dL_acts_176 : decode cL_acts 176 = .ok (.iload 11, 2) := by decide +kernel
theorem dL_acts_178 : decode cL_acts 178 = .ok (.iaload, 1) := by decide +kernel
theorem dL_acts_179 : decode cL_acts 179 = .ok (.aload_n 2, 1) := by decide +kernel
theorem dL_acts_180 : decode cL_acts 180 = .ok (.iload 11, 2) := by decide +kernel
theorem dL_acts_182 : decode cL_acts 182 = .ok (.iconst 1, 1) := by decide +kernel
theorem dL_acts_183 : decode cL_acts 183 = .ok (.iadd, 1) := by decide +kernel
theorem dL_acts_184 : decode cL_acts 184 = .ok (.iaload, 1) := by decide +kernel
theorem dL_acts_185 : decode cL_acts 185 = .ok (.aload_n 2, 1) := by decide +kernel
theorem dL_acts_186 : decode cL_acts 186 = .ok (.iload 11, 2) := by decide +kernel
theorem dL_acts_188 : decode cL_acts 188 = .ok (.iconst 2, 1) := by decide +kernel
theorem dL_acts_189 : decode cL_acts 189 = .ok (.iadd, 1) := by decide +kernel
theorem dL_acts_190 : decode cL_acts 190 = .ok (.iaload, 1) := by decide +kernel
theorem dL_acts_191 : decode cL_acts 191 = .ok (.aload_n 2, 1) := by decide +kernel
theorem dL_acts_192 : decode cL_acts 192 = .ok (.iload 11, 2) := by decide +kernel
theorem dL_acts_194 : decode cL_acts 194 = .ok (.iconst 3, 1) := by decide +kernel
theorem dL_acts_195 : decode cL_acts 195 = .ok (.iadd, 1) := by decide +kernel
theorem dL_acts_196 : decode cL_acts 196 = .ok (.iaload, 1) := by decide +kernel
theorem dL_acts_197 : decode cL_acts 197 = .ok (.invokestatic 135, 3) := by decide +kernel
theorem dL_acts_200 : decode cL_acts 200 = .ok (.ifCond .ne 117, 3) := by decide +kernel
theorem dL_acts_203 : decode cL_acts 203 = .ok (.aload_n 1, 1) := by decide +kernel
theorem dL_acts_204 : decode cL_acts 204 = .ok (.iload 10, 2) := by decide +kernel
theorem dL_acts_206 : decode cL_acts 206 = .ok (.aload_n 2, 1) := by decide +kernel
theorem dL_acts_207 : decode cL_acts 207 = .ok (.iload 11, 2) := by decide +kernel
theorem dL_acts_209 : decode cL_acts 209 = .ok (.iaload, 1) := by decide +kernel
theorem dL_acts_210 : decode cL_acts 210 = .ok (.aload_n 2, 1) := by decide +kernel
theorem dL_acts_211 : decode cL_acts 211 = .ok (.iload 11, 2) := by decide +kernel
theorem dL_acts_213 : decode cL_acts 213 = .ok (.iconst 1, 1) := by decide +kernel
theorem dL_acts_214 : decode cL_acts 214 = .ok (.iadd, 1) := by decide +kernel
theorem dL_acts_215 : decode cL_acts 215 = .ok (.iaload, 1) := by decide +kernel
theorem dL_acts_216 : decode cL_acts 216 = .ok (.aload_n 2, 1) := by decide +kernel
theorem dL_acts_217 : decode cL_acts 217 = .ok (.iload 11, 2) := by decide +kernel
theorem dL_acts_219 : decode cL_acts 219 = .ok (.iconst 2, 1) := by decide +kernel
theorem dL_acts_220 : decode cL_acts 220 = .ok (.iadd, 1) := by decide +kernel
theorem dL_acts_221 : decode cL_acts 221 = .ok (.iaload, 1) := by decide +kernel
theorem dL_acts_222 : decode cL_acts 222 = .ok (.aload_n 2, 1) := by decide +kernel
theorem dL_acts_223 : decode cL_acts 223 = .ok (.iload 11, 2) := by decide +kernel
theorem dL_acts_225 : decode cL_acts 225 = .ok (.iconst 3, 1) := by decide +kernel
theorem dL_acts_226 : decode cL_acts 226 = .ok (.iadd, 1) := by decide +kernel
theorem dL_acts_227 : decode cL_acts 227 = .ok (.iaload, 1) := by decide +kernel
theorem dL_acts_228 : decode cL_acts 228 = .ok (.invokestatic 135, 3) := by decide +kernel
theorem dL_acts_231 : decode cL_acts 231 = .ok (.ifCond .ne 86, 3) := by decide +kernel
theorem dL_acts_234 : decode cL_acts 234 = .ok (.aload_n 0, 1) := by decide +kernel

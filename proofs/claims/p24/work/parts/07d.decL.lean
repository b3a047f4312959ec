theorem dL_runs_0 : decode cL_runs 0 = .ok (.iconst 0, 1) := by decide +kernel
theorem dL_runs_1 : decode cL_runs 1 = .ok (.istore 5, 2) := by decide +kernel
theorem dL_runs_3 : decode cL_runs 3 = .ok (.iconst 4, 1) := by decide +kernel
theorem dL_runs_4 : decode cL_runs 4 = .ok (.newarray .int, 2) := by decide +kernel
theorem dL_runs_6 : decode cL_runs 6 = .ok (.astore 6, 2) := by decide +kernel
theorem dL_runs_8 : decode cL_runs 8 = .ok (.iconst 1, 1) := by decide +kernel
theorem dL_runs_9 : decode cL_runs 9 = .ok (.newarray .int, 2) := by decide +kernel
theorem dL_runs_11 : decode cL_runs 11 = .ok (.astore 7, 2) := by decide +kernel
theorem dL_runs_13 : decode cL_runs 13 = .ok (.aload 7, 2) := by decide +kernel
theorem dL_runs_15 : decode cL_runs 15 = .ok (.iconst 0, 1) := by decide +kernel
theorem dL_runs_16 : decode cL_runs 16 = .ok (.iconst 1, 1) := by decide +kernel
theorem dL_runs_17 : decode cL_runs 17 = .ok (.iastore, 1) := by decide +kernel
theorem dL_runs_18 : decode cL_runs 18 = .ok (.iconst 0, 1) := by decide +kernel
theorem dL_runs_19 : decode cL_runs 19 = .ok (.istore 8, 2) := by decide +kernel
theorem dL_runs_21 : decode cL_runs 21 = .ok (.iload 8, 2) := by decide +kernel
theorem dL_runs_23 : decode cL_runs 23 = .ok (.iconst 5, 1) := by decide +kernel
theorem dL_runs_24 : decode cL_runs 24 = .ok (.if_icmp .ge 37, 3) := by decide +kernel
theorem dL_runs_27 : decode cL_runs 27 = .ok (.iload 5, 2) := by decide +kernel
theorem dL_runs_29 : decode cL_runs 29 = .ok (.aload_n 0, 1) := by decide +kernel
theorem dL_runs_30 : decode cL_runs 30 = .ok (.aload_n 2, 1) := by decide +kernel
theorem dL_runs_31 : decode cL_runs 31 = .ok (.aload_n 3, 1) := by decide +kernel
theorem dL_runs_32 : decode cL_runs 32 = .ok (.iload 8, 2) := by decide +kernel
theorem dL_runs_34 : decode cL_runs 34 = .ok (.aload 4, 2) := by decide +kernel
theorem dL_runs_36 : decode cL_runs 36 = .ok (.iconst 0, 1) := by decide +kernel
theorem dL_runs_37 : decode cL_runs 37 = .ok (.iaload, 1) := by decide +kernel
theorem dL_runs_38 : decode cL_runs 38 = .ok (.invokestatic 103, 3) := by decide +kernel
theorem dL_runs_41 : decode cL_runs 41 = .ok (.ifCond .eq 10, 3) := by decide +kernel
theorem dL_runs_44 : decode cL_runs 44 = .ok (.iconst 1, 1) := by decide +kernel
theorem dL_runs_45 : decode cL_runs 45 = .ok (.iload 8, 2) := by decide +kernel
theorem dL_runs_47 : decode cL_runs 47 = .ok (.ishl, 1) := by decide +kernel
theorem dL_runs_48 : decode cL_runs 48 = .ok (.goto 4, 3) := by decide +kernel
theorem dL_runs_51 : decode cL_runs 51 = .ok (.iconst 0, 1) := by decide +kernel
theorem dL_runs_52 : decode cL_runs 52 = .ok (.ior, 1) := by decide +kernel
theorem dL_runs_53 : decode cL_runs 53 = .ok (.istore 5, 2) := by decide +kernel
theorem dL_runs_55 : decode cL_runs 55 = .ok (.iinc 8 1, 3) := by decide +kernel
theorem dL_runs_58 : decode cL_runs 58 = .ok (.goto (-37), 3) := by decide +kernel
theorem dL_runs_61 : decode cL_runs 61 = .ok (.iconst 0, 1) := by decide +kernel
theorem dL_runs_62 : decode cL_runs 62 = .ok (.istore 8, 2) := by decide +kernel
theorem dL_runs_64 : decode cL_runs 64 = .ok (.iload 8, 2) := by decide +kernel
theorem dL_runs_66 : decode cL_runs 66 = .ok (.iconst 4, 1) := by decide +kernel
theorem dL_runs_67 : decode cL_runs 67 = .ok (.if_icmp .ge 20, 3) := by decide +kernel
theorem dL_runs_70 : decode cL_runs 70 = .ok (.aload 6, 2) := by decide +kernel
theorem dL_runs_72 : decode cL_runs 72 = .ok (.iload 8, 2) := by decide +kernel
theorem dL_runs_74 : decode cL_runs 74 = .ok (.aload_n 0, 1) := by decide +kernel
theorem dL_runs_75 : decode cL_runs 75 = .ok (.iload 8, 2) := by decide +kernel
theorem dL_runs_77 : decode cL_runs 77 = .ok (.invokestatic 85, 3) := by decide +kernel
theorem dL_runs_80 : decode cL_runs 80 = .ok (.iastore, 1) := by decide +kernel
theorem dL_runs_81 : decode cL_runs 81 = .ok (.iinc 8 1, 3) := by decide +kernel
theorem dL_runs_84 : decode cL_runs 84 = .ok (.goto (-20), 3) := by decide +kernel
theorem dL_runs_87 : decode cL_runs 87 = .ok (.aload_n 0, 1) := by decide +kernel
theorem dL_runs_88 : decode cL_runs 88 = .ok (.invokevirtual 129, 3) := by decide +kernel
theorem dL_runs_91 : decode cL_runs 91 = .ok (.iload 5, 2) := by decide +kernel
theorem dL_runs_93 : decode cL_runs 93 = .ok (.if_icmp .ne 16, 3) := by decide +kernel
theorem dL_runs_96 : decode cL_runs 96 = .ok (.aload_n 1, 1) := by decide +kernel
theorem dL_runs_97 : decode cL_runs 97 = .ok (.invokevirtual 129, 3) := by decide +kernel
theorem dL_runs_100 : decode cL_runs 100 = .ok (.iload 5, 2) := by decide +kernel
theorem dL_runs_102 : decode cL_runs 102 = .ok (.if_icmp .ne 7, 3) := by decide +kernel
theorem dL_runs_105 : decode cL_runs 105 = .ok (.iconst 1, 1) := by decide +kernel
theorem dL_runs_106 : decode cL_runs 106 = .ok (.goto 4, 3) := by decide +kernel
theorem dL_runs_109 : decode cL_runs 109 = .ok (.iconst 0, 1) := by decide +kernel
theorem dL_runs_110 : decode cL_runs 110 = .ok (.istore 8, 2) := by decide +kernel
theorem dL_runs_112 : decode cL_runs 112 = .ok (.iconst 0, 1) := by decide +kernel
theorem dL_runs_113 : decode cL_runs 113 = .ok (.istore 9, 2) := by decide +kernel
theorem dL_runs_115 : decode cL_runs 115 = .ok (.iconst 0, 1) := by decide +kernel
theorem dL_runs_116 : decode cL_runs 116 = .ok (.istore 10, 2) := by decide +kernel
theorem dL_runs_118 : decode cL_runs 118 = .ok (.iload 10, 2) := by decide +kernel
theorem dL_runs_120 : decode cL_runs 120 = .ok (.iconst 5, 1) := by decide +kernel
theorem dL_runs_121 : decode cL_runs 121 = .ok (.if_icmp .ge 110, 3) := by decide +kernel
theorem dL_runs_124 : decode cL_runs 124 = .ok (.iload 5, 2) := by decide +kernel
theorem dL_runs_126 : decode cL_runs 126 = .ok (.iload 10, 2) := by decide +kernel
theorem dL_runs_128 : decode cL_runs 128 = .ok (.ishr, 1) := by decide +kernel
theorem dL_runs_129 : decode cL_runs 129 = .ok (.iconst 1, 1) := by decide +kernel
theorem dL_runs_130 : decode cL_runs 130 = .ok (.iand, 1) := by decide +kernel
theorem dL_runs_131 : decode cL_runs 131 = .ok (.iconst 1, 1) := by decide +kernel
theorem dL_runs_132 : decode cL_runs 132 = .ok (.if_icmp .ne 93, 3) := by decide +kernel
theorem dL_runs_135 : decode cL_runs 135 = .ok (.aload_n 3, 1) := by decide +kernel
theorem dL_runs_136 : decode cL_runs 136 = .ok (.iconst 4, 1) := by decide +kernel
theorem dL_runs_137 : decode cL_runs 137 = .ok (.iload 10, 2) := by decide +kernel
theorem dL_runs_139 : decode cL_runs 139 = .ok (.imul, 1) := by decide +kernel
theorem dL_runs_140 : decode cL_runs 140 = .ok (.iconst 1, 1) := by decide +kernel
theorem dL_runs_141 : decode cL_runs 141 = .ok (.iadd, 1) := by decide +kernel
theorem dL_runs_142 : decode cL_runs 142 = .ok (.aload 4, 2) := by decide +kernel
theorem dL_runs_144 : decode cL_runs 144 = .ok (.iconst 0, 1) := by decide +kernel
theorem dL_runs_145 : decode cL_runs 145 = .ok (.iaload, 1) := by decide +kernel
theorem dL_runs_146 : decode cL_runs 146 = .ok (.iastore, 1) := by decide +kernel
theorem dL_runs_147 : decode cL_runs 147 = .ok (.aload_n 3, 1) := by decide +kernel
theorem dL_runs_148 : decode cL_runs 148 = .ok (.iconst 4, 1) := by decide +kernel
theorem dL_runs_149 : decode cL_runs 149 = .ok (.iload 10, 2) := by decide +kernel
theorem dL_runs_151 : decode cL_runs 151 = .ok (.imul, 1) := by decide +kernel
theorem dL_runs_152 : decode cL_runs 152 = .ok (.iconst 2, 1) := by decide +kernel
theorem dL_runs_153 : decode cL_runs 153 = .ok (.iadd, 1) := by decide +kernel
theorem dL_runs_154 : decode cL_runs 154 = .ok (.iconst 1, 1) := by decide +kernel
theorem dL_runs_155 : decode cL_runs 155 = .ok (.iastore, 1) := by decide +kernel
theorem dL_runs_156 : decode cL_runs 156 = .ok (.iload 9, 2) := by decide +kernel
theorem dL_runs_158 : decode cL_runs 158 = .ok (.aload_n 2, 1) := by decide +kernel
theorem dL_runs_159 : decode cL_runs 159 = .ok (.bipush 9, 2) := by decide +kernel
theorem dL_runs_161 : decode cL_runs 161 = .ok (.aload_n 3, 1) := by decide +kernel
theorem dL_runs_162 : decode cL_runs 162 = .ok (.iconst 4, 1) := by decide +kernel
theorem dL_runs_163 : decode cL_runs 163 = .ok (.iload 10, 2) := by decide +kernel
theorem dL_runs_165 : decode cL_runs 165 = .ok (.imul, 1) := by decide +kernel
theorem dL_runs_166 : decode cL_runs 166 = .ok (.iaload, 1) := by decide +kernel
theorem dL_runs_167 : decode cL_runs 167 = .ok (.imul, 1) := by decide +kernel
theorem dL_runs_168 : decode cL_runs 168 = .ok (.bipush 8, 2) := by decide +kernel
theorem dL_runs_170 : decode cL_runs 170 = .ok (.iadd, 1) := by decide +kernel
theorem dL_runs_171 : decode cL_runs 171 = .ok (.iaload, 1) := by decide +kernel
theorem dL_runs_172 : decode cL_runs 172 = .ok (.iconst 1, 1) := by decide +kernel
theorem dL_runs_173 : decode cL_runs 173 = .ok (.if_icmp .ne 14, 3) := by decide +kernel
theorem dL_runs_176 : decode cL_runs 176 = .ok (.iconst 1, 1) := by decide +kernel
theorem dL_runs_177 : decode cL_runs 177 = .ok (.aload_n 3, 1) := by decide +kernel
theorem dL_runs_178 : decode cL_runs 178 = .ok (.iconst 4, 1) := by decide +kernel
theorem dL_runs_179 : decode cL_runs 179 = .ok (.iload 10, 2) := by decide +kernel
theorem dL_runs_181 : decode cL_runs 181 = .ok (.imul, 1) := by decide +kernel
theorem dL_runs_182 : decode cL_runs 182 = .ok (.iaload, 1) := by decide +kernel
theorem dL_runs_183 : decode cL_runs 183 = .ok (.ishl, 1) := by decide +kernel
theorem dL_runs_184 : decode cL_runs 184 = .ok (.goto 4, 3) := by decide +kernel
theorem dL_runs_187 : decode cL_runs 187 = .ok (.iconst 0, 1) := by decide +kernel
theorem dL_runs_188 : decode cL_runs 188 = .ok (.ior, 1) := by decide +kernel
theorem dL_runs_189 : decode cL_runs 189 = .ok (.istore 9, 2) := by decide +kernel
theorem dL_runs_191 : decode cL_runs 191 = .ok (.iload 8, 2) := by decide +kernel
theorem dL_runs_193 : decode cL_runs 193 = .ok (.ifCond .eq 29, 3) := by decide +kernel
theorem dL_runs_196 : decode cL_runs 196 = .ok (.aload_n 0, 1) := by decide +kernel
theorem dL_runs_197 : decode cL_runs 197 = .ok (.aload_n 2, 1) := by decide +kernel
theorem dL_runs_198 : decode cL_runs 198 = .ok (.aload_n 3, 1) := by decide +kernel
theorem dL_runs_199 : decode cL_runs 199 = .ok (.iload 10, 2) := by decide +kernel
theorem dL_runs_201 : decode cL_runs 201 = .ok (.aload 7, 2) := by decide +kernel
theorem dL_runs_203 : decode cL_runs 203 = .ok (.invokestatic 125, 3) := by decide +kernel
theorem dL_runs_206 : decode cL_runs 206 = .ok (.ifCond .eq 16, 3) := by decide +kernel
theorem dL_runs_209 : decode cL_runs 209 = .ok (.aload_n 0, 1) := by decide +kernel
theorem dL_runs_210 : decode cL_runs 210 = .ok (.iload 10, 2) := by decide +kernel
theorem dL_runs_212 : decode cL_runs 212 = .ok (.invokestatic 107, 3) := by decide +kernel
theorem dL_runs_215 : decode cL_runs 215 = .ok (.ifCond .ne 7, 3) := by decide +kernel
theorem dL_runs_218 : decode cL_runs 218 = .ok (.iconst 1, 1) := by decide +kernel
theorem dL_runs_219 : decode cL_runs 219 = .ok (.goto 4, 3) := by decide +kernel
theorem dL_runs_222 : decode cL_runs 222 = .ok (.iconst 0, 1) := by decide +kernel
theorem dL_runs_223 : decode cL_runs 223 = .ok (.istore 8, 2) := by decide +kernel
theorem dL_runs_225 : decode cL_runs 225 = .ok (.iinc 10 1, 3) := by decide +kernel
theorem dL_runs_228 : decode cL_runs 228 = .ok (.goto (-110), 3) := by decide +kernel
theorem dL_runs_231 : decode cL_runs 231 = .ok (.iconst 0, 1) := by decide +kernel
theorem dL_runs_232 : decode cL_runs 232 = .ok (.istore 10, 2) := by decide +kernel
theorem dL_runs_234 : decode cL_runs 234 = .ok (.iload 10, 2) := by decide +kernel

theorem dL_turns_0 : decode cL_turns 0 = .ok (.iconst 1, 1) := by decide +kernel
theorem dL_turns_1 : decode cL_turns 1 = .ok (.newarray .int, 2) := by decide +kernel
theorem dL_turns_3 : decode cL_turns 3 = .ok (.astore 6, 2) := by decide +kernel
theorem dL_turns_5 : decode cL_turns 5 = .ok (.aload_n 0, 1) := by decide +kernel
theorem dL_turns_6 : decode cL_turns 6 = .ok (.iload 5, 2) := by decide +kernel
theorem dL_turns_8 : decode cL_turns 8 = .ok (.invokestatic 92, 3) := by decide +kernel
theorem dL_turns_11 : decode cL_turns 11 = .ok (.istore 7, 2) := by decide +kernel
theorem dL_turns_13 : decode cL_turns 13 = .ok (.aload_n 0, 1) := by decide +kernel
theorem dL_turns_14 : decode cL_turns 14 = .ok (.iload 5, 2) := by decide +kernel
theorem dL_turns_16 : decode cL_turns 16 = .ok (.invokestatic 90, 3) := by decide +kernel
theorem dL_turns_19 : decode cL_turns 19 = .ok (.istore 8, 2) := by decide +kernel
theorem dL_turns_21 : decode cL_turns 21 = .ok (.aload_n 0, 1) := by decide +kernel
theorem dL_turns_22 : decode cL_turns 22 = .ok (.iload 5, 2) := by decide +kernel
theorem dL_turns_24 : decode cL_turns 24 = .ok (.invokestatic 94, 3) := by decide +kernel
theorem dL_turns_27 : decode cL_turns 27 = .ok (.istore 9, 2) := by decide +kernel
theorem dL_turns_29 : decode cL_turns 29 = .ok (.iconst 4, 1) := by decide +kernel
theorem dL_turns_30 : decode cL_turns 30 = .ok (.newarray .int, 2) := by decide +kernel
theorem dL_turns_32 : decode cL_turns 32 = .ok (.astore 10, 2) := by decide +kernel
theorem dL_turns_34 : decode cL_turns 34 = .ok (.iconst 0, 1) := by decide +kernel
theorem dL_turns_35 : decode cL_turns 35 = .ok (.istore 11, 2) := by decide +kernel
theorem dL_turns_37 : decode cL_turns 37 = .ok (.iload 11, 2) := by decide +kernel
theorem dL_turns_39 : decode cL_turns 39 = .ok (.iconst 4, 1) := by decide +kernel
theorem dL_turns_40 : decode cL_turns 40 = .ok (.if_icmp .ge 20, 3) := by decide +kernel
theorem dL_turns_43 : decode cL_turns 43 = .ok (.aload 10, 2) := by decide +kernel
theorem dL_turns_45 : decode cL_turns 45 = .ok (.iload 11, 2) := by decide +kernel
theorem dL_turns_47 : decode cL_turns 47 = .ok (.aload_n 0, 1) := by decide +kernel
theorem dL_turns_48 : decode cL_turns 48 = .ok (.iload 11, 2) := by decide +kernel
theorem dL_turns_50 : decode cL_turns 50 = .ok (.invokestatic 85, 3) := by decide +kernel
theorem dL_turns_53 : decode cL_turns 53 = .ok (.iastore, 1) := by decide +kernel
theorem dL_turns_54 : decode cL_turns 54 = .ok (.iinc 11 1, 3) := by decide +kernel
theorem dL_turns_57 : decode cL_turns 57 = .ok (.goto (-20), 3) := by decide +kernel
theorem dL_turns_60 : decode cL_turns 60 = .ok (.aload_n 0, 1) := by decide +kernel
theorem dL_turns_61 : decode cL_turns 61 = .ok (.iload 5, 2) := by decide +kernel
theorem dL_turns_63 : decode cL_turns 63 = .ok (.invokestatic 123, 3) := by decide +kernel
theorem dL_turns_66 : decode cL_turns 66 = .ok (.istore 11, 2) := by decide +kernel
theorem dL_turns_68 : decode cL_turns 68 = .ok (.aload_n 1, 1) := by decide +kernel
theorem dL_turns_69 : decode cL_turns 69 = .ok (.iload 5, 2) := by decide +kernel
theorem dL_turns_71 : decode cL_turns 71 = .ok (.invokestatic 123, 3) := by decide +kernel
theorem dL_turns_74 : decode cL_turns 74 = .ok (.iload 11, 2) := by decide +kernel
theorem dL_turns_76 : decode cL_turns 76 = .ok (.if_icmp .ne 28, 3) := by decide +kernel
theorem dL_turns_79 : decode cL_turns 79 = .ok (.iload 11, 2) := by decide +kernel
theorem dL_turns_81 : decode cL_turns 81 = .ok (.ifCond .lt 23, 3) := by decide +kernel
theorem dL_turns_84 : decode cL_turns 84 = .ok (.aload_n 0, 1) := by decide +kernel
theorem dL_turns_85 : decode cL_turns 85 = .ok (.iload 5, 2) := by decide +kernel
theorem dL_turns_87 : decode cL_turns 87 = .ok (.invokestatic 92, 3) := by decide +kernel
theorem dL_turns_90 : decode cL_turns 90 = .ok (.iload 7, 2) := by decide +kernel
theorem dL_turns_92 : decode cL_turns 92 = .ok (.iconst 1, 1) := by decide +kernel
theorem dL_turns_93 : decode cL_turns 93 = .ok (.iadd, 1) := by decide +kernel
theorem dL_turns_94 : decode cL_turns 94 = .ok (.iload 11, 2) := by decide +kernel
theorem dL_turns_96 : decode cL_turns 96 = .ok (.isub, 1) := by decide +kernel
theorem dL_turns_97 : decode cL_turns 97 = .ok (.if_icmp .ne 7, 3) := by decide +kernel
theorem dL_turns_100 : decode cL_turns 100 = .ok (.iconst 1, 1) := by decide +kernel
theorem dL_turns_101 : decode cL_turns 101 = .ok (.goto 4, 3) := by decide +kernel
theorem dL_turns_104 : decode cL_turns 104 = .ok (.iconst 0, 1) := by decide +kernel
theorem dL_turns_105 : decode cL_turns 105 = .ok (.istore 12, 2) := by decide +kernel
theorem dL_turns_107 : decode cL_turns 107 = .ok (.aload_n 3, 1) := by decide +kernel
theorem dL_turns_108 : decode cL_turns 108 = .ok (.iconst 4, 1) := by decide +kernel
theorem dL_turns_109 : decode cL_turns 109 = .ok (.iload 5, 2) := by decide +kernel
theorem dL_turns_111 : decode cL_turns 111 = .ok (.imul, 1) := by decide +kernel
theorem dL_turns_112 : decode cL_turns 112 = .ok (.iconst 1, 1) := by decide +kernel
theorem dL_turns_113 : decode cL_turns 113 = .ok (.iadd, 1) := by decide +kernel
theorem dL_turns_114 : decode cL_turns 114 = .ok (.aload 4, 2) := by decide +kernel
theorem dL_turns_116 : decode cL_turns 116 = .ok (.iconst 0, 1) := by decide +kernel
theorem dL_turns_117 : decode cL_turns 117 = .ok (.iaload, 1) := by decide +kernel
theorem dL_turns_118 : decode cL_turns 118 = .ok (.iastore, 1) := by decide +kernel
theorem dL_turns_119 : decode cL_turns 119 = .ok (.aload_n 3, 1) := by decide +kernel
theorem dL_turns_120 : decode cL_turns 120 = .ok (.iconst 4, 1) := by decide +kernel
theorem dL_turns_121 : decode cL_turns 121 = .ok (.iload 5, 2) := by decide +kernel
theorem dL_turns_123 : decode cL_turns 123 = .ok (.imul, 1) := by decide +kernel
theorem dL_turns_124 : decode cL_turns 124 = .ok (.iconst 2, 1) := by decide +kernel
theorem dL_turns_125 : decode cL_turns 125 = .ok (.iadd, 1) := by decide +kernel
theorem dL_turns_126 : decode cL_turns 126 = .ok (.iconst 1, 1) := by decide +kernel
theorem dL_turns_127 : decode cL_turns 127 = .ok (.iastore, 1) := by decide +kernel
theorem dL_turns_128 : decode cL_turns 128 = .ok (.iconst 0, 1) := by decide +kernel
theorem dL_turns_129 : decode cL_turns 129 = .ok (.istore 13, 2) := by decide +kernel
theorem dL_turns_131 : decode cL_turns 131 = .ok (.iconst 0, 1) := by decide +kernel
theorem dL_turns_132 : decode cL_turns 132 = .ok (.istore 14, 2) := by decide +kernel
theorem dL_turns_134 : decode cL_turns 134 = .ok (.iload 14, 2) := by decide +kernel
theorem dL_turns_136 : decode cL_turns 136 = .ok (.iconst 4, 1) := by decide +kernel
theorem dL_turns_137 : decode cL_turns 137 = .ok (.if_icmp .ge 154, 3) := by decide +kernel
theorem dL_turns_140 : decode cL_turns 140 = .ok (.aload 10, 2) := by decide +kernel
theorem dL_turns_142 : decode cL_turns 142 = .ok (.iload 14, 2) := by decide +kernel
theorem dL_turns_144 : decode cL_turns 144 = .ok (.iaload, 1) := by decide +kernel
theorem dL_turns_145 : decode cL_turns 145 = .ok (.ifCond .lt 20, 3) := by decide +kernel
theorem dL_turns_148 : decode cL_turns 148 = .ok (.aload 10, 2) := by decide +kernel
theorem dL_turns_150 : decode cL_turns 150 = .ok (.iload 14, 2) := by decide +kernel
theorem dL_turns_152 : decode cL_turns 152 = .ok (.iaload, 1) := by decide +kernel
theorem dL_turns_153 : decode cL_turns 153 = .ok (.bipush 100, 2) := by decide +kernel
theorem dL_turns_155 : decode cL_turns 155 = .ok (.idiv, 1) := by decide +kernel
theorem dL_turns_156 : decode cL_turns 156 = .ok (.iload 5, 2) := by decide +kernel
theorem dL_turns_158 : decode cL_turns 158 = .ok (.if_icmp .ne 7, 3) := by decide +kernel
theorem dL_turns_161 : decode cL_turns 161 = .ok (.iconst 1, 1) := by decide +kernel
theorem dL_turns_162 : decode cL_turns 162 = .ok (.goto 4, 3) := by decide +kernel
theorem dL_turns_165 : decode cL_turns 165 = .ok (.iconst 0, 1) := by decide +kernel
theorem dL_turns_166 : decode cL_turns 166 = .ok (.istore 15, 2) := by decide +kernel
theorem dL_turns_168 : decode cL_turns 168 = .ok (.iload 12, 2) := by decide +kernel
theorem dL_turns_170 : decode cL_turns 170 = .ok (.ifCond .eq 84, 3) := by decide +kernel
theorem dL_turns_173 : decode cL_turns 173 = .ok (.iload 15, 2) := by decide +kernel
theorem dL_turns_175 : decode cL_turns 175 = .ok (.ifCond .ne 20, 3) := by decide +kernel
theorem dL_turns_178 : decode cL_turns 178 = .ok (.aload_n 0, 1) := by decide +kernel
theorem dL_turns_179 : decode cL_turns 179 = .ok (.iload 14, 2) := by decide +kernel
theorem dL_turns_181 : decode cL_turns 181 = .ok (.invokestatic 85, 3) := by decide +kernel
theorem dL_turns_184 : decode cL_turns 184 = .ok (.aload 10, 2) := by decide +kernel
theorem dL_turns_186 : decode cL_turns 186 = .ok (.iload 14, 2) := by decide +kernel
theorem dL_turns_188 : decode cL_turns 188 = .ok (.iaload, 1) := by decide +kernel
theorem dL_turns_189 : decode cL_turns 189 = .ok (.if_icmp .ne 65, 3) := by decide +kernel
theorem dL_turns_192 : decode cL_turns 192 = .ok (.goto 58, 3) := by decide +kernel
theorem dL_turns_195 : decode cL_turns 195 = .ok (.aload_n 0, 1) := by decide +kernel
theorem dL_turns_196 : decode cL_turns 196 = .ok (.iload 14, 2) := by decide +kernel
theorem dL_turns_198 : decode cL_turns 198 = .ok (.invokestatic 85, 3) := by decide +kernel
theorem dL_turns_201 : decode cL_turns 201 = .ok (.bipush 100, 2) := by decide +kernel
theorem dL_turns_203 : decode cL_turns 203 = .ok (.idiv, 1) := by decide +kernel
theorem dL_turns_204 : decode cL_turns 204 = .ok (.iload 5, 2) := by decide +kernel
theorem dL_turns_206 : decode cL_turns 206 = .ok (.if_icmp .ne 48, 3) := by decide +kernel
theorem dL_turns_209 : decode cL_turns 209 = .ok (.aload_n 0, 1) := by decide +kernel
theorem dL_turns_210 : decode cL_turns 210 = .ok (.iload 14, 2) := by decide +kernel
theorem dL_turns_212 : decode cL_turns 212 = .ok (.invokestatic 85, 3) := by decide +kernel
theorem dL_turns_215 : decode cL_turns 215 = .ok (.bipush 100, 2) := by decide +kernel
theorem dL_turns_217 : decode cL_turns 217 = .ok (.irem, 1) := by decide +kernel
theorem dL_turns_218 : decode cL_turns 218 = .ok (.ifCond .le 36, 3) := by decide +kernel
theorem dL_turns_221 : decode cL_turns 221 = .ok (.aload 10, 2) := by decide +kernel
theorem dL_turns_223 : decode cL_turns 223 = .ok (.iload 14, 2) := by decide +kernel
theorem dL_turns_225 : decode cL_turns 225 = .ok (.iaload, 1) := by decide +kernel
theorem dL_turns_226 : decode cL_turns 226 = .ok (.bipush 100, 2) := by decide +kernel
theorem dL_turns_228 : decode cL_turns 228 = .ok (.irem, 1) := by decide +kernel
theorem dL_turns_229 : decode cL_turns 229 = .ok (.ifCond .gt 21, 3) := by decide +kernel
theorem dL_turns_232 : decode cL_turns 232 = .ok (.aload_n 0, 1) := by decide +kernel
theorem dL_turns_233 : decode cL_turns 233 = .ok (.iload 14, 2) := by decide +kernel
theorem dL_turns_235 : decode cL_turns 235 = .ok (.invokestatic 85, 3) := by decide +kernel
theorem dL_turns_238 : decode cL_turns 238 = .ok (.bipush 100, 2) := by decide +kernel
theorem dL_turns_240 : decode cL_turns 240 = .ok (.irem, 1) := by decide +kernel
theorem dL_turns_241 : decode cL_turns 241 = .ok (.aload_n 0, 1) := by decide +kernel
theorem dL_turns_242 : decode cL_turns 242 = .ok (.iload 5, 2) := by decide +kernel
theorem dL_turns_244 : decode cL_turns 244 = .ok (.invokestatic 92, 3) := by decide +kernel
theorem dL_turns_247 : decode cL_turns 247 = .ok (.if_icmp .ne 7, 3) := by decide +kernel
theorem dL_turns_250 : decode cL_turns 250 = .ok (.iconst 1, 1) := by decide +kernel
theorem dL_turns_251 : decode cL_turns 251 = .ok (.goto 4, 3) := by decide +kernel
theorem dL_turns_254 : decode cL_turns 254 = .ok (.iconst 0, 1) := by decide +kernel
theorem dL_turns_255 : decode cL_turns 255 = .ok (.istore 12, 2) := by decide +kernel
theorem dL_turns_257 : decode cL_turns 257 = .ok (.iload 13, 2) := by decide +kernel

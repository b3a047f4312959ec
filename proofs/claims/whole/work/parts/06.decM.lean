theorem dX5_init_0 : decode cX5_init 0 = .ok (.aload_n 0, 1) := by decide +kernel
theorem dX5_init_1 : decode cX5_init 1 = .ok (.invokespecial 1, 3) := by decide +kernel
theorem dX5_init_4 : decode cX5_init 4 = .ok (.aload_n 0, 1) := by decide +kernel
theorem dX5_init_5 : decode cX5_init 5 = .ok (.iconst 3, 1) := by decide +kernel
theorem dX5_init_6 : decode cX5_init 6 = .ok (.newarray .int, 2) := by decide +kernel
theorem dX5_init_8 : decode cX5_init 8 = .ok (.putfield 7, 3) := by decide +kernel
theorem dX5_init_11 : decode cX5_init 11 = .ok (.aload_n 0, 1) := by decide +kernel
theorem dX5_init_12 : decode cX5_init 12 = .ok (.iconst 3, 1) := by decide +kernel
theorem dX5_init_13 : decode cX5_init 13 = .ok (.newarray .int, 2) := by decide +kernel
theorem dX5_init_15 : decode cX5_init 15 = .ok (.putfield 13, 3) := by decide +kernel
theorem dX5_init_18 : decode cX5_init 18 = .ok (.aload_n 0, 1) := by decide +kernel
theorem dX5_init_19 : decode cX5_init 19 = .ok (.iconst 3, 1) := by decide +kernel
theorem dX5_init_20 : decode cX5_init 20 = .ok (.newarray .int, 2) := by decide +kernel
theorem dX5_init_22 : decode cX5_init 22 = .ok (.putfield 16, 3) := by decide +kernel
theorem dX5_init_25 : decode cX5_init 25 = .ok (.aload_n 0, 1) := by decide +kernel
theorem dX5_init_26 : decode cX5_init 26 = .ok (.iconst 3, 1) := by decide +kernel
theorem dX5_init_27 : decode cX5_init 27 = .ok (.newarray .int, 2) := by decide +kernel
theorem dX5_init_29 : decode cX5_init 29 = .ok (.putfield 19, 3) := by decide +kernel
theorem dX5_init_32 : decode cX5_init 32 = .ok (.aload_n 0, 1) := by decide +kernel
theorem dX5_init_33 : decode cX5_init 33 = .ok (.iconst 3, 1) := by decide +kernel
theorem dX5_init_34 : decode cX5_init 34 = .ok (.newarray .int, 2) := by decide +kernel
theorem dX5_init_36 : decode cX5_init 36 = .ok (.putfield 22, 3) := by decide +kernel
theorem dX5_init_39 : decode cX5_init 39 = .ok (.aload_n 0, 1) := by decide +kernel
theorem dX5_init_40 : decode cX5_init 40 = .ok (.iconst 3, 1) := by decide +kernel
theorem dX5_init_41 : decode cX5_init 41 = .ok (.newarray .int, 2) := by decide +kernel
theorem dX5_init_43 : decode cX5_init 43 = .ok (.putfield 25, 3) := by decide +kernel
theorem dX5_init_46 : decode cX5_init 46 = .ok (.aload_n 0, 1) := by decide +kernel
theorem dX5_init_47 : decode cX5_init 47 = .ok (.iconst 3, 1) := by decide +kernel
theorem dX5_init_48 : decode cX5_init 48 = .ok (.newarray .boolean, 2) := by decide +kernel
theorem dX5_init_50 : decode cX5_init 50 = .ok (.putfield 28, 3) := by decide +kernel
theorem dX5_init_53 : decode cX5_init 53 = .ok (.aload_n 0, 1) := by decide +kernel
theorem dX5_init_54 : decode cX5_init 54 = .ok (.iconst 3, 1) := by decide +kernel
theorem dX5_init_55 : decode cX5_init 55 = .ok (.newarray .boolean, 2) := by decide +kernel
theorem dX5_init_57 : decode cX5_init 57 = .ok (.putfield 32, 3) := by decide +kernel
theorem dX5_init_60 : decode cX5_init 60 = .ok (.aload_n 0, 1) := by decide +kernel
theorem dX5_init_61 : decode cX5_init 61 = .ok (.iconst 3, 1) := by decide +kernel
theorem dX5_init_62 : decode cX5_init 62 = .ok (.newarray .boolean, 2) := by decide +kernel
theorem dX5_init_64 : decode cX5_init 64 = .ok (.putfield 35, 3) := by decide +kernel
theorem dX5_init_67 : decode cX5_init 67 = .ok (.aload_n 0, 1) := by decide +kernel
theorem dX5_init_68 : decode cX5_init 68 = .ok (.iconst 5, 1) := by decide +kernel
theorem dX5_init_69 : decode cX5_init 69 = .ok (.newarray .int, 2) := by decide +kernel
theorem dX5_init_71 : decode cX5_init 71 = .ok (.putfield 38, 3) := by decide +kernel
theorem dX5_init_74 : decode cX5_init 74 = .ok (.aload_n 0, 1) := by decide +kernel
theorem dX5_init_75 : decode cX5_init 75 = .ok (.iconst 5, 1) := by decide +kernel
theorem dX5_init_76 : decode cX5_init 76 = .ok (.newarray .int, 2) := by decide +kernel
theorem dX5_init_78 : decode cX5_init 78 = .ok (.putfield 41, 3) := by decide +kernel
theorem dX5_init_81 : decode cX5_init 81 = .ok (.aload_n 0, 1) := by decide +kernel
theorem dX5_init_82 : decode cX5_init 82 = .ok (.iconst 5, 1) := by decide +kernel
theorem dX5_init_83 : decode cX5_init 83 = .ok (.newarray .int, 2) := by decide +kernel
theorem dX5_init_85 : decode cX5_init 85 = .ok (.putfield 44, 3) := by decide +kernel
theorem dX5_init_88 : decode cX5_init 88 = .ok (.aload_n 0, 1) := by decide +kernel
theorem dX5_init_89 : decode cX5_init 89 = .ok (.iconst 5, 1) := by decide +kernel
theorem dX5_init_90 : decode cX5_init 90 = .ok (.newarray .boolean, 2) := by decide +kernel
theorem dX5_init_92 : decode cX5_init 92 = .ok (.putfield 47, 3) := by decide +kernel
theorem dX5_init_95 : decode cX5_init 95 = .ok (.aload_n 0, 1) := by decide +kernel
theorem dX5_init_96 : decode cX5_init 96 = .ok (.iconst 5, 1) := by decide +kernel
theorem dX5_init_97 : decode cX5_init 97 = .ok (.newarray .int, 2) := by decide +kernel
theorem dX5_init_99 : decode cX5_init 99 = .ok (.putfield 50, 3) := by decide +kernel
theorem dX5_init_102 : decode cX5_init 102 = .ok (.aload_n 0, 1) := by decide +kernel
theorem dX5_init_103 : decode cX5_init 103 = .ok (.sipush 4096, 3) := by decide +kernel
theorem dX5_init_106 : decode cX5_init 106 = .ok (.newarray .int, 2) := by decide +kernel
theorem dX5_init_108 : decode cX5_init 108 = .ok (.putfield 53, 3) := by decide +kernel
theorem dX5_init_111 : decode cX5_init 111 = .ok (.aload_n 0, 1) := by decide +kernel
theorem dX5_init_112 : decode cX5_init 112 = .ok (.sipush 4096, 3) := by decide +kernel
theorem dX5_init_115 : decode cX5_init 115 = .ok (.newarray .int, 2) := by decide +kernel
theorem dX5_init_117 : decode cX5_init 117 = .ok (.putfield 56, 3) := by decide +kernel
theorem dX5_init_120 : decode cX5_init 120 = .ok (.aload_n 0, 1) := by decide +kernel
theorem dX5_init_121 : decode cX5_init 121 = .ok (.sipush 4096, 3) := by decide +kernel
theorem dX5_init_124 : decode cX5_init 124 = .ok (.newarray .int, 2) := by decide +kernel
theorem dX5_init_126 : decode cX5_init 126 = .ok (.putfield 59, 3) := by decide +kernel
theorem dX5_init_129 : decode cX5_init 129 = .ok (.aload_n 0, 1) := by decide +kernel
theorem dX5_init_130 : decode cX5_init 130 = .ok (.sipush 4096, 3) := by decide +kernel
theorem dX5_init_133 : decode cX5_init 133 = .ok (.newarray .boolean, 2) := by decide +kernel
theorem dX5_init_135 : decode cX5_init 135 = .ok (.putfield 62, 3) := by decide +kernel
theorem dX5_init_138 : decode cX5_init 138 = .ok (.aload_n 0, 1) := by decide +kernel
theorem dX5_init_139 : decode cX5_init 139 = .ok (.iconst 4, 1) := by decide +kernel
theorem dX5_init_140 : decode cX5_init 140 = .ok (.newarray .int, 2) := by decide +kernel
theorem dX5_init_142 : decode cX5_init 142 = .ok (.putfield 65, 3) := by decide +kernel
theorem dX5_init_145 : decode cX5_init 145 = .ok (.aload_n 0, 1) := by decide +kernel
theorem dX5_init_146 : decode cX5_init 146 = .ok (.iconst 4, 1) := by decide +kernel
theorem dX5_init_147 : decode cX5_init 147 = .ok (.newarray .int, 2) := by decide +kernel
theorem dX5_init_149 : decode cX5_init 149 = .ok (.putfield 68, 3) := by decide +kernel
theorem dX5_init_152 : decode cX5_init 152 = .ok (.iconst 0, 1) := by decide +kernel
theorem dX5_init_153 : decode cX5_init 153 = .ok (.istore_n 1, 1) := by decide +kernel
theorem dX5_init_154 : decode cX5_init 154 = .ok (.iload_n 1, 1) := by decide +kernel
theorem dX5_init_155 : decode cX5_init 155 = .ok (.iconst 3, 1) := by decide +kernel
theorem dX5_init_156 : decode cX5_init 156 = .ok (.if_icmp .ge 30, 3) := by decide +kernel
theorem dX5_init_159 : decode cX5_init 159 = .ok (.aload_n 0, 1) := by decide +kernel
theorem dX5_init_160 : decode cX5_init 160 = .ok (.getfield 13, 3) := by decide +kernel
theorem dX5_init_163 : decode cX5_init 163 = .ok (.iload_n 1, 1) := by decide +kernel
theorem dX5_init_164 : decode cX5_init 164 = .ok (.iconst (-1), 1) := by decide +kernel
theorem dX5_init_165 : decode cX5_init 165 = .ok (.iastore, 1) := by decide +kernel
theorem dX5_init_166 : decode cX5_init 166 = .ok (.aload_n 0, 1) := by decide +kernel
theorem dX5_init_167 : decode cX5_init 167 = .ok (.getfield 16, 3) := by decide +kernel
theorem dX5_init_170 : decode cX5_init 170 = .ok (.iload_n 1, 1) := by decide +kernel
theorem dX5_init_171 : decode cX5_init 171 = .ok (.iconst (-1), 1) := by decide +kernel
theorem dX5_init_172 : decode cX5_init 172 = .ok (.iastore, 1) := by decide +kernel
theorem dX5_init_173 : decode cX5_init 173 = .ok (.aload_n 0, 1) := by decide +kernel
theorem dX5_init_174 : decode cX5_init 174 = .ok (.getfield 22, 3) := by decide +kernel
theorem dX5_init_177 : decode cX5_init 177 = .ok (.iload_n 1, 1) := by decide +kernel
theorem dX5_init_178 : decode cX5_init 178 = .ok (.iconst 3, 1) := by decide +kernel
theorem dX5_init_179 : decode cX5_init 179 = .ok (.iastore, 1) := by decide +kernel
theorem dX5_init_180 : decode cX5_init 180 = .ok (.iinc 1 1, 3) := by decide +kernel
theorem dX5_init_183 : decode cX5_init 183 = .ok (.goto (-29), 3) := by decide +kernel
theorem dX5_init_186 : decode cX5_init 186 = .ok (.iconst 0, 1) := by decide +kernel
theorem dX5_init_187 : decode cX5_init 187 = .ok (.istore_n 1, 1) := by decide +kernel
theorem dX5_init_188 : decode cX5_init 188 = .ok (.iload_n 1, 1) := by decide +kernel
theorem dX5_init_189 : decode cX5_init 189 = .ok (.iconst 4, 1) := by decide +kernel
theorem dX5_init_190 : decode cX5_init 190 = .ok (.if_icmp .ge 23, 3) := by decide +kernel
theorem dX5_init_193 : decode cX5_init 193 = .ok (.aload_n 0, 1) := by decide +kernel
theorem dX5_init_194 : decode cX5_init 194 = .ok (.getfield 65, 3) := by decide +kernel
theorem dX5_init_197 : decode cX5_init 197 = .ok (.iload_n 1, 1) := by decide +kernel
theorem dX5_init_198 : decode cX5_init 198 = .ok (.iconst (-1), 1) := by decide +kernel
theorem dX5_init_199 : decode cX5_init 199 = .ok (.iastore, 1) := by decide +kernel
theorem dX5_init_200 : decode cX5_init 200 = .ok (.aload_n 0, 1) := by decide +kernel
theorem dX5_init_201 : decode cX5_init 201 = .ok (.getfield 68, 3) := by decide +kernel
theorem dX5_init_204 : decode cX5_init 204 = .ok (.iload_n 1, 1) := by decide +kernel
theorem dX5_init_205 : decode cX5_init 205 = .ok (.iconst (-1), 1) := by decide +kernel
theorem dX5_init_206 : decode cX5_init 206 = .ok (.iastore, 1) := by decide +kernel
theorem dX5_init_207 : decode cX5_init 207 = .ok (.iinc 1 1, 3) := by decide +kernel
theorem dX5_init_210 : decode cX5_init 210 = .ok (.goto (-22), 3) := by decide +kernel
theorem dX5_init_213 : decode cX5_init 213 = .ok (.return_, 1) := by decide +kernel
theorem dX5_thrown_0 : decode cX5_thrown 0 = .ok (.aload_n 0, 1) := by decide +kernel
theorem dX5_thrown_1 : decode cX5_thrown 1 = .ok (.getfield 71, 3) := by decide +kernel
theorem dX5_thrown_4 : decode cX5_thrown 4 = .ok (.ireturn, 1) := by decide +kernel
theorem dX5_in_0 : decode cX5_in 0 = .ok (.iload_n 0, 1) := by decide +kernel
theorem dX5_in_1 : decode cX5_in 1 = .ok (.iload_n 1, 1) := by decide +kernel
theorem dX5_in_2 : decode cX5_in 2 = .ok (.if_icmp .lt 12, 3) := by decide +kernel
theorem dX5_in_5 : decode cX5_in 5 = .ok (.iload_n 0, 1) := by decide +kernel
theorem dX5_in_6 : decode cX5_in 6 = .ok (.iload_n 2, 1) := by decide +kernel
theorem dX5_in_7 : decode cX5_in 7 = .ok (.if_icmp .gt 7, 3) := by decide +kernel
theorem dX5_in_10 : decode cX5_in 10 = .ok (.iconst 1, 1) := by decide +kernel
theorem dX5_in_11 : decode cX5_in 11 = .ok (.goto 4, 3) := by decide +kernel
theorem dX5_in_14 : decode cX5_in 14 = .ok (.iconst 0, 1) := by decide +kernel
theorem dX5_in_15 : decode cX5_in 15 = .ok (.ireturn, 1) := by decide +kernel
theorem dX5_goes_0 : decode cX5_goes 0 = .ok (.aload_n 0, 1) := by decide +kernel
theorem dX5_goes_1 : decode cX5_goes 1 = .ok (.iload_n 1, 1) := by decide +kernel
theorem dX5_goes_2 : decode cX5_goes 2 = .ok (.ifCond .ne 7, 3) := by decide +kernel
theorem dX5_goes_5 : decode cX5_goes 5 = .ok (.iconst 1, 1) := by decide +kernel
theorem dX5_goes_6 : decode cX5_goes 6 = .ok (.goto 20, 3) := by decide +kernel
theorem dX5_goes_9 : decode cX5_goes 9 = .ok (.iload_n 2, 1) := by decide +kernel
theorem dX5_goes_10 : decode cX5_goes 10 = .ok (.ifCond .ne 7, 3) := by decide +kernel
theorem dX5_goes_13 : decode cX5_goes 13 = .ok (.iconst 2, 1) := by decide +kernel
theorem dX5_goes_14 : decode cX5_goes 14 = .ok (.goto 12, 3) := by decide +kernel
theorem dX5_goes_17 : decode cX5_goes 17 = .ok (.iload_n 3, 1) := by decide +kernel
theorem dX5_goes_18 : decode cX5_goes 18 = .ok (.ifCond .ne 7, 3) := by decide +kernel
theorem dX5_goes_21 : decode cX5_goes 21 = .ok (.iconst 3, 1) := by decide +kernel
theorem dX5_goes_22 : decode cX5_goes 22 = .ok (.goto 4, 3) := by decide +kernel
theorem dX5_goes_25 : decode cX5_goes 25 = .ok (.iconst 0, 1) := by decide +kernel
theorem dX5_goes_26 : decode cX5_goes 26 = .ok (.putfield 71, 3) := by decide +kernel
theorem dX5_goes_29 : decode cX5_goes 29 = .ok (.aload_n 0, 1) := by decide +kernel
theorem dX5_goes_30 : decode cX5_goes 30 = .ok (.getfield 71, 3) := by decide +kernel
theorem dX5_goes_33 : decode cX5_goes 33 = .ok (.ifCond .ne 7, 3) := by decide +kernel
theorem dX5_goes_36 : decode cX5_goes 36 = .ok (.iconst 1, 1) := by decide +kernel
theorem dX5_goes_37 : decode cX5_goes 37 = .ok (.goto 4, 3) := by decide +kernel
theorem dX5_goes_40 : decode cX5_goes 40 = .ok (.iconst 0, 1) := by decide +kernel
theorem dX5_goes_41 : decode cX5_goes 41 = .ok (.ireturn, 1) := by decide +kernel
theorem dX5_isFile_0 : decode cX5_isFile 0 = .ok (.iload_n 0, 1) := by decide +kernel
theorem dX5_isFile_1 : decode cX5_isFile 1 = .ok (.iconst 0, 1) := by decide +kernel
theorem dX5_isFile_2 : decode cX5_isFile 2 = .ok (.iconst 4, 1) := by decide +kernel
theorem dX5_isFile_3 : decode cX5_isFile 3 = .ok (.invokestatic 75, 3) := by decide +kernel
theorem dX5_isFile_6 : decode cX5_isFile 6 = .ok (.ireturn, 1) := by decide +kernel
theorem dX5_isRule_0 : decode cX5_isRule 0 = .ok (.iload_n 0, 1) := by decide +kernel
theorem dX5_isRule_1 : decode cX5_isRule 1 = .ok (.iconst 0, 1) := by decide +kernel
theorem dX5_isRule_2 : decode cX5_isRule 2 = .ok (.iconst 2, 1) := by decide +kernel
theorem dX5_isRule_3 : decode cX5_isRule 3 = .ok (.invokestatic 75, 3) := by decide +kernel
theorem dX5_isRule_6 : decode cX5_isRule 6 = .ok (.ireturn, 1) := by decide +kernel
theorem dX5_isHolder_0 : decode cX5_isHolder 0 = .ok (.iload_n 0, 1) := by decide +kernel
theorem dX5_isHolder_1 : decode cX5_isHolder 1 = .ok (.iconst 0, 1) := by decide +kernel
theorem dX5_isHolder_2 : decode cX5_isHolder 2 = .ok (.iconst 3, 1) := by decide +kernel
theorem dX5_isHolder_3 : decode cX5_isHolder 3 = .ok (.invokestatic 75, 3) := by decide +kernel
theorem dX5_isHolder_6 : decode cX5_isHolder 6 = .ok (.ireturn, 1) := by decide +kernel
theorem dX5_setDue_0 : decode cX5_setDue 0 = .ok (.iload_n 2, 1) := by decide +kernel
theorem dX5_setDue_1 : decode cX5_setDue 1 = .ok (.iconst 0, 1) := by decide +kernel
theorem dX5_setDue_2 : decode cX5_setDue 2 = .ok (.sipush 10000, 3) := by decide +kernel
theorem dX5_setDue_5 : decode cX5_setDue 5 = .ok (.invokestatic 75, 3) := by decide +kernel
theorem dX5_setDue_8 : decode cX5_setDue 8 = .ok (.ifCond .eq 39, 3) := by decide +kernel
theorem dX5_setDue_11 : decode cX5_setDue 11 = .ok (.iload_n 3, 1) := by decide +kernel
theorem dX5_setDue_12 : decode cX5_setDue 12 = .ok (.iconst (-1), 1) := by decide +kernel
theorem dX5_setDue_13 : decode cX5_setDue 13 = .ok (.bipush 6, 2) := by decide +kernel
theorem dX5_setDue_15 : decode cX5_setDue 15 = .ok (.invokestatic 75, 3) := by decide +kernel
theorem dX5_setDue_18 : decode cX5_setDue 18 = .ok (.ifCond .eq 29, 3) := by decide +kernel
theorem dX5_setDue_21 : decode cX5_setDue 21 = .ok (.iload 4, 2) := by decide +kernel
theorem dX5_setDue_23 : decode cX5_setDue 23 = .ok (.iconst (-1), 1) := by decide +kernel
theorem dX5_setDue_24 : decode cX5_setDue 24 = .ok (.bipush 29, 2) := by decide +kernel
theorem dX5_setDue_26 : decode cX5_setDue 26 = .ok (.invokestatic 75, 3) := by decide +kernel
theorem dX5_setDue_29 : decode cX5_setDue 29 = .ok (.ifCond .eq 18, 3) := by decide +kernel
theorem dX5_setDue_32 : decode cX5_setDue 32 = .ok (.iload 5, 2) := by decide +kernel
theorem dX5_setDue_34 : decode cX5_setDue 34 = .ok (.iconst 0, 1) := by decide +kernel
theorem dX5_setDue_35 : decode cX5_setDue 35 = .ok (.bipush 100, 2) := by decide +kernel
theorem dX5_setDue_37 : decode cX5_setDue 37 = .ok (.invokestatic 75, 3) := by decide +kernel
theorem dX5_setDue_40 : decode cX5_setDue 40 = .ok (.ifCond .eq 7, 3) := by decide +kernel
theorem dX5_setDue_43 : decode cX5_setDue 43 = .ok (.iconst 1, 1) := by decide +kernel
theorem dX5_setDue_44 : decode cX5_setDue 44 = .ok (.goto 4, 3) := by decide +kernel
theorem dX5_setDue_47 : decode cX5_setDue 47 = .ok (.iconst 0, 1) := by decide +kernel
theorem dX5_setDue_48 : decode cX5_setDue 48 = .ok (.istore 6, 2) := by decide +kernel
theorem dX5_setDue_50 : decode cX5_setDue 50 = .ok (.aload_n 0, 1) := by decide +kernel
theorem dX5_setDue_51 : decode cX5_setDue 51 = .ok (.iload_n 1, 1) := by decide +kernel
theorem dX5_setDue_52 : decode cX5_setDue 52 = .ok (.invokestatic 79, 3) := by decide +kernel
theorem dX5_setDue_55 : decode cX5_setDue 55 = .ok (.iload 6, 2) := by decide +kernel
theorem dX5_setDue_57 : decode cX5_setDue 57 = .ok (.iconst 1, 1) := by decide +kernel
theorem dX5_setDue_58 : decode cX5_setDue 58 = .ok (.invokevirtual 83, 3) := by decide +kernel
theorem dX5_setDue_61 : decode cX5_setDue 61 = .ok (.ifCond .eq 33, 3) := by decide +kernel
theorem dX5_setDue_64 : decode cX5_setDue 64 = .ok (.aload_n 0, 1) := by decide +kernel
theorem dX5_setDue_65 : decode cX5_setDue 65 = .ok (.getfield 7, 3) := by decide +kernel
theorem dX5_setDue_68 : decode cX5_setDue 68 = .ok (.iload_n 1, 1) := by decide +kernel
theorem dX5_setDue_69 : decode cX5_setDue 69 = .ok (.iload_n 2, 1) := by decide +kernel
theorem dX5_setDue_70 : decode cX5_setDue 70 = .ok (.iastore, 1) := by decide +kernel
theorem dX5_setDue_71 : decode cX5_setDue 71 = .ok (.aload_n 0, 1) := by decide +kernel
theorem dX5_setDue_72 : decode cX5_setDue 72 = .ok (.getfield 13, 3) := by decide +kernel
theorem dX5_setDue_75 : decode cX5_setDue 75 = .ok (.iload_n 1, 1) := by decide +kernel
theorem dX5_setDue_76 : decode cX5_setDue 76 = .ok (.iload_n 3, 1) := by decide +kernel
theorem dX5_setDue_77 : decode cX5_setDue 77 = .ok (.iastore, 1) := by decide +kernel
theorem dX5_setDue_78 : decode cX5_setDue 78 = .ok (.aload_n 0, 1) := by decide +kernel
theorem dX5_setDue_79 : decode cX5_setDue 79 = .ok (.getfield 16, 3) := by decide +kernel
theorem dX5_setDue_82 : decode cX5_setDue 82 = .ok (.iload_n 1, 1) := by decide +kernel
theorem dX5_setDue_83 : decode cX5_setDue 83 = .ok (.iload 4, 2) := by decide +kernel
theorem dX5_setDue_85 : decode cX5_setDue 85 = .ok (.iastore, 1) := by decide +kernel
theorem dX5_setDue_86 : decode cX5_setDue 86 = .ok (.aload_n 0, 1) := by decide +kernel
theorem dX5_setDue_87 : decode cX5_setDue 87 = .ok (.getfield 19, 3) := by decide +kernel
theorem dX5_setDue_90 : decode cX5_setDue 90 = .ok (.iload_n 1, 1) := by decide +kernel
theorem dX5_setDue_91 : decode cX5_setDue 91 = .ok (.iload 5, 2) := by decide +kernel
theorem dX5_setDue_93 : decode cX5_setDue 93 = .ok (.iastore, 1) := by decide +kernel
theorem dX5_setDue_94 : decode cX5_setDue 94 = .ok (.return_, 1) := by decide +kernel
theorem dX5_setOld_0 : decode cX5_setOld 0 = .ok (.aload_n 0, 1) := by decide +kernel
theorem dX5_setOld_1 : decode cX5_setOld 1 = .ok (.iload_n 1, 1) := by decide +kernel
theorem dX5_setOld_2 : decode cX5_setOld 2 = .ok (.invokestatic 79, 3) := by decide +kernel
theorem dX5_setOld_5 : decode cX5_setOld 5 = .ok (.iload_n 2, 1) := by decide +kernel
theorem dX5_setOld_6 : decode cX5_setOld 6 = .ok (.iconst 0, 1) := by decide +kernel
theorem dX5_setOld_7 : decode cX5_setOld 7 = .ok (.bipush 10, 2) := by decide +kernel
theorem dX5_setOld_9 : decode cX5_setOld 9 = .ok (.invokestatic 75, 3) := by decide +kernel
theorem dX5_setOld_12 : decode cX5_setOld 12 = .ok (.ifCond .eq 18, 3) := by decide +kernel
theorem dX5_setOld_15 : decode cX5_setOld 15 = .ok (.iload_n 3, 1) := by decide +kernel
theorem dX5_setOld_16 : decode cX5_setOld 16 = .ok (.iconst 0, 1) := by decide +kernel
theorem dX5_setOld_17 : decode cX5_setOld 17 = .ok (.sipush 1000, 3) := by decide +kernel
theorem dX5_setOld_20 : decode cX5_setOld 20 = .ok (.invokestatic 75, 3) := by decide +kernel
theorem dX5_setOld_23 : decode cX5_setOld 23 = .ok (.ifCond .eq 7, 3) := by decide +kernel
theorem dX5_setOld_26 : decode cX5_setOld 26 = .ok (.iconst 1, 1) := by decide +kernel
theorem dX5_setOld_27 : decode cX5_setOld 27 = .ok (.goto 4, 3) := by decide +kernel
theorem dX5_setOld_30 : decode cX5_setOld 30 = .ok (.iconst 0, 1) := by decide +kernel
theorem dX5_setOld_31 : decode cX5_setOld 31 = .ok (.iconst 1, 1) := by decide +kernel
theorem dX5_setOld_32 : decode cX5_setOld 32 = .ok (.invokevirtual 83, 3) := by decide +kernel
theorem dX5_setOld_35 : decode cX5_setOld 35 = .ok (.ifCond .eq 41, 3) := by decide +kernel
theorem dX5_setOld_38 : decode cX5_setOld 38 = .ok (.aload_n 0, 1) := by decide +kernel
theorem dX5_setOld_39 : decode cX5_setOld 39 = .ok (.getfield 22, 3) := by decide +kernel
theorem dX5_setOld_42 : decode cX5_setOld 42 = .ok (.iload_n 1, 1) := by decide +kernel
theorem dX5_setOld_43 : decode cX5_setOld 43 = .ok (.iload_n 2, 1) := by decide +kernel
theorem dX5_setOld_44 : decode cX5_setOld 44 = .ok (.iastore, 1) := by decide +kernel
theorem dX5_setOld_45 : decode cX5_setOld 45 = .ok (.aload_n 0, 1) := by decide +kernel
theorem dX5_setOld_46 : decode cX5_setOld 46 = .ok (.getfield 25, 3) := by decide +kernel
theorem dX5_setOld_49 : decode cX5_setOld 49 = .ok (.iload_n 1, 1) := by decide +kernel
theorem dX5_setOld_50 : decode cX5_setOld 50 = .ok (.iload_n 3, 1) := by decide +kernel
theorem dX5_setOld_51 : decode cX5_setOld 51 = .ok (.iastore, 1) := by decide +kernel
theorem dX5_setOld_52 : decode cX5_setOld 52 = .ok (.aload_n 0, 1) := by decide +kernel
theorem dX5_setOld_53 : decode cX5_setOld 53 = .ok (.getfield 28, 3) := by decide +kernel
theorem dX5_setOld_56 : decode cX5_setOld 56 = .ok (.iload_n 1, 1) := by decide +kernel
theorem dX5_setOld_57 : decode cX5_setOld 57 = .ok (.iload 4, 2) := by decide +kernel
theorem dX5_setOld_59 : decode cX5_setOld 59 = .ok (.bastore, 1) := by decide +kernel
theorem dX5_setOld_60 : decode cX5_setOld 60 = .ok (.aload_n 0, 1) := by decide +kernel
theorem dX5_setOld_61 : decode cX5_setOld 61 = .ok (.getfield 32, 3) := by decide +kernel
theorem dX5_setOld_64 : decode cX5_setOld 64 = .ok (.iload_n 1, 1) := by decide +kernel
theorem dX5_setOld_65 : decode cX5_setOld 65 = .ok (.iload 5, 2) := by decide +kernel
theorem dX5_setOld_67 : decode cX5_setOld 67 = .ok (.bastore, 1) := by decide +kernel
theorem dX5_setOld_68 : decode cX5_setOld 68 = .ok (.aload_n 0, 1) := by decide +kernel
theorem dX5_setOld_69 : decode cX5_setOld 69 = .ok (.getfield 35, 3) := by decide +kernel
theorem dX5_setOld_72 : decode cX5_setOld 72 = .ok (.iload_n 1, 1) := by decide +kernel
theorem dX5_setOld_73 : decode cX5_setOld 73 = .ok (.iload 6, 2) := by decide +kernel
theorem dX5_setOld_75 : decode cX5_setOld 75 = .ok (.bastore, 1) := by decide +kernel
theorem dX5_setOld_76 : decode cX5_setOld 76 = .ok (.return_, 1) := by decide +kernel
theorem dX5_give_0 : decode cX5_give 0 = .ok (.aload_n 0, 1) := by decide +kernel
theorem dX5_give_1 : decode cX5_give 1 = .ok (.iload_n 1, 1) := by decide +kernel
theorem dX5_give_2 : decode cX5_give 2 = .ok (.invokestatic 87, 3) := by decide +kernel
theorem dX5_give_5 : decode cX5_give 5 = .ok (.ifCond .eq 14, 3) := by decide +kernel
theorem dX5_give_8 : decode cX5_give 8 = .ok (.iload_n 2, 1) := by decide +kernel
theorem dX5_give_9 : decode cX5_give 9 = .ok (.invokestatic 79, 3) := by decide +kernel
theorem dX5_give_12 : decode cX5_give 12 = .ok (.ifCond .eq 7, 3) := by decide +kernel
theorem dX5_give_15 : decode cX5_give 15 = .ok (.iconst 1, 1) := by decide +kernel
theorem dX5_give_16 : decode cX5_give 16 = .ok (.goto 4, 3) := by decide +kernel
theorem dX5_give_19 : decode cX5_give 19 = .ok (.iconst 0, 1) := by decide +kernel
theorem dX5_give_20 : decode cX5_give 20 = .ok (.iconst 1, 1) := by decide +kernel
theorem dX5_give_21 : decode cX5_give 21 = .ok (.iconst 1, 1) := by decide +kernel
theorem dX5_give_22 : decode cX5_give 22 = .ok (.invokevirtual 83, 3) := by decide +kernel
theorem dX5_give_25 : decode cX5_give 25 = .ok (.ifCond .ne 5, 3) := by decide +kernel
theorem dX5_give_28 : decode cX5_give 28 = .ok (.iconst 0, 1) := by decide +kernel
theorem dX5_give_29 : decode cX5_give 29 = .ok (.ireturn, 1) := by decide +kernel
theorem dX5_give_30 : decode cX5_give 30 = .ok (.aload_n 0, 1) := by decide +kernel
theorem dX5_give_31 : decode cX5_give 31 = .ok (.getfield 38, 3) := by decide +kernel
theorem dX5_give_34 : decode cX5_give 34 = .ok (.iload_n 1, 1) := by decide +kernel
theorem dX5_give_35 : decode cX5_give 35 = .ok (.iaload, 1) := by decide +kernel
theorem dX5_give_36 : decode cX5_give 36 = .ok (.istore_n 3, 1) := by decide +kernel
theorem dX5_give_37 : decode cX5_give 37 = .ok (.aload_n 0, 1) := by decide +kernel
theorem dX5_give_38 : decode cX5_give 38 = .ok (.getfield 38, 3) := by decide +kernel
theorem dX5_give_41 : decode cX5_give 41 = .ok (.iload_n 1, 1) := by decide +kernel
theorem dX5_give_42 : decode cX5_give 42 = .ok (.iload_n 2, 1) := by decide +kernel
theorem dX5_give_43 : decode cX5_give 43 = .ok (.iastore, 1) := by decide +kernel
theorem dX5_give_44 : decode cX5_give 44 = .ok (.iload_n 3, 1) := by decide +kernel
theorem dX5_give_45 : decode cX5_give 45 = .ok (.ireturn, 1) := by decide +kernel
theorem dX5_open_0 : decode cX5_open 0 = .ok (.aload_n 0, 1) := by decide +kernel
theorem dX5_open_1 : decode cX5_open 1 = .ok (.iload_n 1, 1) := by decide +kernel
theorem dX5_open_2 : decode cX5_open 2 = .ok (.invokestatic 90, 3) := by decide +kernel
theorem dX5_open_5 : decode cX5_open 5 = .ok (.ifCond .eq 14, 3) := by decide +kernel
theorem dX5_open_8 : decode cX5_open 8 = .ok (.iload_n 2, 1) := by decide +kernel
theorem dX5_open_9 : decode cX5_open 9 = .ok (.invokestatic 87, 3) := by decide +kernel
theorem dX5_open_12 : decode cX5_open 12 = .ok (.ifCond .eq 7, 3) := by decide +kernel
theorem dX5_open_15 : decode cX5_open 15 = .ok (.iconst 1, 1) := by decide +kernel
theorem dX5_open_16 : decode cX5_open 16 = .ok (.goto 4, 3) := by decide +kernel
theorem dX5_open_19 : decode cX5_open 19 = .ok (.iconst 0, 1) := by decide +kernel
theorem dX5_open_20 : decode cX5_open 20 = .ok (.iconst 1, 1) := by decide +kernel
theorem dX5_open_21 : decode cX5_open 21 = .ok (.iconst 1, 1) := by decide +kernel
theorem dX5_open_22 : decode cX5_open 22 = .ok (.invokevirtual 83, 3) := by decide +kernel
theorem dX5_open_25 : decode cX5_open 25 = .ok (.ifCond .eq 17, 3) := by decide +kernel
theorem dX5_open_28 : decode cX5_open 28 = .ok (.aload_n 0, 1) := by decide +kernel
theorem dX5_open_29 : decode cX5_open 29 = .ok (.getfield 65, 3) := by decide +kernel
theorem dX5_open_32 : decode cX5_open 32 = .ok (.iload_n 1, 1) := by decide +kernel
theorem dX5_open_33 : decode cX5_open 33 = .ok (.iload_n 2, 1) := by decide +kernel
theorem dX5_open_34 : decode cX5_open 34 = .ok (.iastore, 1) := by decide +kernel
theorem dX5_open_35 : decode cX5_open 35 = .ok (.aload_n 0, 1) := by decide +kernel
theorem dX5_open_36 : decode cX5_open 36 = .ok (.getfield 68, 3) := by decide +kernel
theorem dX5_open_39 : decode cX5_open 39 = .ok (.iload_n 1, 1) := by decide +kernel
theorem dX5_open_40 : decode cX5_open 40 = .ok (.iconst (-1), 1) := by decide +kernel
theorem dX5_open_41 : decode cX5_open 41 = .ok (.iastore, 1) := by decide +kernel
theorem dX5_open_42 : decode cX5_open 42 = .ok (.return_, 1) := by decide +kernel
theorem dX5_shut_0 : decode cX5_shut 0 = .ok (.aload_n 0, 1) := by decide +kernel
theorem dX5_shut_1 : decode cX5_shut 1 = .ok (.iload_n 1, 1) := by decide +kernel
theorem dX5_shut_2 : decode cX5_shut 2 = .ok (.invokestatic 90, 3) := by decide +kernel
theorem dX5_shut_5 : decode cX5_shut 5 = .ok (.iconst 1, 1) := by decide +kernel
theorem dX5_shut_6 : decode cX5_shut 6 = .ok (.iconst 1, 1) := by decide +kernel
theorem dX5_shut_7 : decode cX5_shut 7 = .ok (.invokevirtual 83, 3) := by decide +kernel
theorem dX5_shut_10 : decode cX5_shut 10 = .ok (.ifCond .ne 5, 3) := by decide +kernel
theorem dX5_shut_13 : decode cX5_shut 13 = .ok (.iconst 0, 1) := by decide +kernel
theorem dX5_shut_14 : decode cX5_shut 14 = .ok (.ireturn, 1) := by decide +kernel
theorem dX5_shut_15 : decode cX5_shut 15 = .ok (.aload_n 0, 1) := by decide +kernel
theorem dX5_shut_16 : decode cX5_shut 16 = .ok (.getfield 65, 3) := by decide +kernel
theorem dX5_shut_19 : decode cX5_shut 19 = .ok (.iload_n 1, 1) := by decide +kernel
theorem dX5_shut_20 : decode cX5_shut 20 = .ok (.iaload, 1) := by decide +kernel
theorem dX5_shut_21 : decode cX5_shut 21 = .ok (.iconst (-1), 1) := by decide +kernel
theorem dX5_shut_22 : decode cX5_shut 22 = .ok (.if_icmp .eq 7, 3) := by decide +kernel
theorem dX5_shut_25 : decode cX5_shut 25 = .ok (.iconst 1, 1) := by decide +kernel
theorem dX5_shut_26 : decode cX5_shut 26 = .ok (.goto 4, 3) := by decide +kernel
theorem dX5_shut_29 : decode cX5_shut 29 = .ok (.iconst 0, 1) := by decide +kernel
theorem dX5_shut_30 : decode cX5_shut 30 = .ok (.istore_n 2, 1) := by decide +kernel
theorem dX5_shut_31 : decode cX5_shut 31 = .ok (.aload_n 0, 1) := by decide +kernel
theorem dX5_shut_32 : decode cX5_shut 32 = .ok (.getfield 65, 3) := by decide +kernel
theorem dX5_shut_35 : decode cX5_shut 35 = .ok (.iload_n 1, 1) := by decide +kernel
theorem dX5_shut_36 : decode cX5_shut 36 = .ok (.iconst (-1), 1) := by decide +kernel
theorem dX5_shut_37 : decode cX5_shut 37 = .ok (.iastore, 1) := by decide +kernel
theorem dX5_shut_38 : decode cX5_shut 38 = .ok (.aload_n 0, 1) := by decide +kernel
theorem dX5_shut_39 : decode cX5_shut 39 = .ok (.getfield 68, 3) := by decide +kernel
theorem dX5_shut_42 : decode cX5_shut 42 = .ok (.iload_n 1, 1) := by decide +kernel
theorem dX5_shut_43 : decode cX5_shut 43 = .ok (.iconst (-1), 1) := by decide +kernel
theorem dX5_shut_44 : decode cX5_shut 44 = .ok (.iastore, 1) := by decide +kernel
theorem dX5_shut_45 : decode cX5_shut 45 = .ok (.iload_n 2, 1) := by decide +kernel
theorem dX5_shut_46 : decode cX5_shut 46 = .ok (.ireturn, 1) := by decide +kernel
theorem dX5_tell_0 : decode cX5_tell 0 = .ok (.iload_n 1, 1) := by decide +kernel
theorem dX5_tell_1 : decode cX5_tell 1 = .ok (.invokestatic 90, 3) := by decide +kernel
theorem dX5_tell_4 : decode cX5_tell 4 = .ok (.istore_n 2, 1) := by decide +kernel
theorem dX5_tell_5 : decode cX5_tell 5 = .ok (.aload_n 0, 1) := by decide +kernel
theorem dX5_tell_6 : decode cX5_tell 6 = .ok (.iload_n 2, 1) := by decide +kernel
theorem dX5_tell_7 : decode cX5_tell 7 = .ok (.iload_n 2, 1) := by decide +kernel
theorem dX5_tell_8 : decode cX5_tell 8 = .ok (.ifCond .eq 17, 3) := by decide +kernel
theorem dX5_tell_11 : decode cX5_tell 11 = .ok (.aload_n 0, 1) := by decide +kernel
theorem dX5_tell_12 : decode cX5_tell 12 = .ok (.getfield 65, 3) := by decide +kernel
theorem dX5_tell_15 : decode cX5_tell 15 = .ok (.iload_n 1, 1) := by decide +kernel
theorem dX5_tell_16 : decode cX5_tell 16 = .ok (.iaload, 1) := by decide +kernel
theorem dX5_tell_17 : decode cX5_tell 17 = .ok (.iconst (-1), 1) := by decide +kernel
theorem dX5_tell_18 : decode cX5_tell 18 = .ok (.if_icmp .eq 7, 3) := by decide +kernel
theorem dX5_tell_21 : decode cX5_tell 21 = .ok (.iconst 1, 1) := by decide +kernel
theorem dX5_tell_22 : decode cX5_tell 22 = .ok (.goto 4, 3) := by decide +kernel
theorem dX5_tell_25 : decode cX5_tell 25 = .ok (.iconst 0, 1) := by decide +kernel
theorem dX5_tell_26 : decode cX5_tell 26 = .ok (.iconst 1, 1) := by decide +kernel
theorem dX5_tell_27 : decode cX5_tell 27 = .ok (.invokevirtual 83, 3) := by decide +kernel
theorem dX5_tell_30 : decode cX5_tell 30 = .ok (.ifCond .ne 5, 3) := by decide +kernel
theorem dX5_tell_33 : decode cX5_tell 33 = .ok (.iconst 0, 1) := by decide +kernel
theorem dX5_tell_34 : decode cX5_tell 34 = .ok (.ireturn, 1) := by decide +kernel
theorem dX5_tell_35 : decode cX5_tell 35 = .ok (.aload_n 0, 1) := by decide +kernel
theorem dX5_tell_36 : decode cX5_tell 36 = .ok (.getfield 68, 3) := by decide +kernel
theorem dX5_tell_39 : decode cX5_tell 39 = .ok (.iload_n 1, 1) := by decide +kernel
theorem dX5_tell_40 : decode cX5_tell 40 = .ok (.iaload, 1) := by decide +kernel
theorem dX5_tell_41 : decode cX5_tell 41 = .ok (.iconst (-1), 1) := by decide +kernel
theorem dX5_tell_42 : decode cX5_tell 42 = .ok (.if_icmp .eq 7, 3) := by decide +kernel
theorem dX5_tell_45 : decode cX5_tell 45 = .ok (.iconst 1, 1) := by decide +kernel
theorem dX5_tell_46 : decode cX5_tell 46 = .ok (.goto 4, 3) := by decide +kernel
theorem dX5_tell_49 : decode cX5_tell 49 = .ok (.iconst 0, 1) := by decide +kernel
theorem dX5_tell_50 : decode cX5_tell 50 = .ok (.istore_n 3, 1) := by decide +kernel
theorem dX5_tell_51 : decode cX5_tell 51 = .ok (.aload_n 0, 1) := by decide +kernel
theorem dX5_tell_52 : decode cX5_tell 52 = .ok (.getfield 68, 3) := by decide +kernel
theorem dX5_tell_55 : decode cX5_tell 55 = .ok (.iload_n 1, 1) := by decide +kernel
theorem dX5_tell_56 : decode cX5_tell 56 = .ok (.iconst (-1), 1) := by decide +kernel
theorem dX5_tell_57 : decode cX5_tell 57 = .ok (.iastore, 1) := by decide +kernel
theorem dX5_tell_58 : decode cX5_tell 58 = .ok (.iload_n 3, 1) := by decide +kernel
theorem dX5_tell_59 : decode cX5_tell 59 = .ok (.ireturn, 1) := by decide +kernel
theorem dX5_write_0 : decode cX5_write 0 = .ok (.iload_n 1, 1) := by decide +kernel
theorem dX5_write_1 : decode cX5_write 1 = .ok (.invokestatic 90, 3) := by decide +kernel
theorem dX5_write_4 : decode cX5_write 4 = .ok (.istore_n 3, 1) := by decide +kernel
theorem dX5_write_5 : decode cX5_write 5 = .ok (.aload_n 0, 1) := by decide +kernel
theorem dX5_write_6 : decode cX5_write 6 = .ok (.iload_n 3, 1) := by decide +kernel
theorem dX5_write_7 : decode cX5_write 7 = .ok (.iload_n 2, 1) := by decide +kernel
theorem dX5_write_8 : decode cX5_write 8 = .ok (.iconst 1, 1) := by decide +kernel
theorem dX5_write_9 : decode cX5_write 9 = .ok (.sipush 1000, 3) := by decide +kernel
theorem dX5_write_12 : decode cX5_write 12 = .ok (.invokestatic 75, 3) := by decide +kernel
theorem dX5_write_15 : decode cX5_write 15 = .ok (.iload_n 3, 1) := by decide +kernel
theorem dX5_write_16 : decode cX5_write 16 = .ok (.ifCond .eq 17, 3) := by decide +kernel
theorem dX5_write_19 : decode cX5_write 19 = .ok (.aload_n 0, 1) := by decide +kernel
theorem dX5_write_20 : decode cX5_write 20 = .ok (.getfield 65, 3) := by decide +kernel
theorem dX5_write_23 : decode cX5_write 23 = .ok (.iload_n 1, 1) := by decide +kernel
theorem dX5_write_24 : decode cX5_write 24 = .ok (.iaload, 1) := by decide +kernel
theorem dX5_write_25 : decode cX5_write 25 = .ok (.iconst (-1), 1) := by decide +kernel
theorem dX5_write_26 : decode cX5_write 26 = .ok (.if_icmp .eq 7, 3) := by decide +kernel
theorem dX5_write_29 : decode cX5_write 29 = .ok (.iconst 1, 1) := by decide +kernel
theorem dX5_write_30 : decode cX5_write 30 = .ok (.goto 4, 3) := by decide +kernel
theorem dX5_write_33 : decode cX5_write 33 = .ok (.iconst 0, 1) := by decide +kernel
theorem dX5_write_34 : decode cX5_write 34 = .ok (.invokevirtual 83, 3) := by decide +kernel
theorem dX5_write_37 : decode cX5_write 37 = .ok (.ifCond .ne 5, 3) := by decide +kernel
theorem dX5_write_40 : decode cX5_write 40 = .ok (.iconst 0, 1) := by decide +kernel
theorem dX5_write_41 : decode cX5_write 41 = .ok (.ireturn, 1) := by decide +kernel
theorem dX5_write_42 : decode cX5_write 42 = .ok (.aload_n 0, 1) := by decide +kernel
theorem dX5_write_43 : decode cX5_write 43 = .ok (.getfield 68, 3) := by decide +kernel
theorem dX5_write_46 : decode cX5_write 46 = .ok (.iload_n 1, 1) := by decide +kernel
theorem dX5_write_47 : decode cX5_write 47 = .ok (.iaload, 1) := by decide +kernel
theorem dX5_write_48 : decode cX5_write 48 = .ok (.istore 4, 2) := by decide +kernel
theorem dX5_write_50 : decode cX5_write 50 = .ok (.iload 4, 2) := by decide +kernel
theorem dX5_write_52 : decode cX5_write 52 = .ok (.iconst (-1), 1) := by decide +kernel
theorem dX5_write_53 : decode cX5_write 53 = .ok (.if_icmp .ne 30, 3) := by decide +kernel
theorem dX5_write_56 : decode cX5_write 56 = .ok (.aload_n 0, 1) := by decide +kernel
theorem dX5_write_57 : decode cX5_write 57 = .ok (.getfield 41, 3) := by decide +kernel
theorem dX5_write_60 : decode cX5_write 60 = .ok (.aload_n 0, 1) := by decide +kernel
theorem dX5_write_61 : decode cX5_write 61 = .ok (.getfield 65, 3) := by decide +kernel
theorem dX5_write_64 : decode cX5_write 64 = .ok (.iload_n 1, 1) := by decide +kernel
theorem dX5_write_65 : decode cX5_write 65 = .ok (.iaload, 1) := by decide +kernel
theorem dX5_write_66 : decode cX5_write 66 = .ok (.dup2, 1) := by decide +kernel
theorem dX5_write_67 : decode cX5_write 67 = .ok (.iaload, 1) := by decide +kernel
theorem dX5_write_68 : decode cX5_write 68 = .ok (.iload_n 2, 1) := by decide +kernel
theorem dX5_write_69 : decode cX5_write 69 = .ok (.iadd, 1) := by decide +kernel
theorem dX5_write_70 : decode cX5_write 70 = .ok (.iastore, 1) := by decide +kernel
theorem dX5_write_71 : decode cX5_write 71 = .ok (.aload_n 0, 1) := by decide +kernel
theorem dX5_write_72 : decode cX5_write 72 = .ok (.getfield 41, 3) := by decide +kernel
theorem dX5_write_75 : decode cX5_write 75 = .ok (.aload_n 0, 1) := by decide +kernel
theorem dX5_write_76 : decode cX5_write 76 = .ok (.getfield 65, 3) := by decide +kernel
theorem dX5_write_79 : decode cX5_write 79 = .ok (.iload_n 1, 1) := by decide +kernel
theorem dX5_write_80 : decode cX5_write 80 = .ok (.iaload, 1) := by decide +kernel
theorem dX5_write_81 : decode cX5_write 81 = .ok (.iaload, 1) := by decide +kernel
theorem dX5_write_82 : decode cX5_write 82 = .ok (.ireturn, 1) := by decide +kernel
theorem dX5_write_83 : decode cX5_write 83 = .ok (.aload_n 0, 1) := by decide +kernel
theorem dX5_write_84 : decode cX5_write 84 = .ok (.getfield 56, 3) := by decide +kernel
theorem dX5_write_87 : decode cX5_write 87 = .ok (.iload 4, 2) := by decide +kernel
theorem dX5_write_89 : decode cX5_write 89 = .ok (.dup2, 1) := by decide +kernel
theorem dX5_write_90 : decode cX5_write 90 = .ok (.iaload, 1) := by decide +kernel
theorem dX5_write_91 : decode cX5_write 91 = .ok (.iload_n 2, 1) := by decide +kernel
theorem dX5_write_92 : decode cX5_write 92 = .ok (.iadd, 1) := by decide +kernel
theorem dX5_write_93 : decode cX5_write 93 = .ok (.iastore, 1) := by decide +kernel
theorem dX5_write_94 : decode cX5_write 94 = .ok (.aload_n 0, 1) := by decide +kernel
theorem dX5_write_95 : decode cX5_write 95 = .ok (.getfield 56, 3) := by decide +kernel
theorem dX5_write_98 : decode cX5_write 98 = .ok (.iload 4, 2) := by decide +kernel
theorem dX5_write_100 : decode cX5_write 100 = .ok (.iaload, 1) := by decide +kernel
theorem dX5_write_101 : decode cX5_write 101 = .ok (.ireturn, 1) := by decide +kernel
theorem dX5_advance_0 : decode cX5_advance 0 = .ok (.iload_n 1, 1) := by decide +kernel
theorem dX5_advance_1 : decode cX5_advance 1 = .ok (.iconst 1, 1) := by decide +kernel
theorem dX5_advance_2 : decode cX5_advance 2 = .ok (.bipush 100, 2) := by decide +kernel
theorem dX5_advance_4 : decode cX5_advance 4 = .ok (.invokestatic 75, 3) := by decide +kernel
theorem dX5_advance_7 : decode cX5_advance 7 = .ok (.istore_n 2, 1) := by decide +kernel
theorem dX5_advance_8 : decode cX5_advance 8 = .ok (.aload_n 0, 1) := by decide +kernel
theorem dX5_advance_9 : decode cX5_advance 9 = .ok (.iload_n 2, 1) := by decide +kernel
theorem dX5_advance_10 : decode cX5_advance 10 = .ok (.iload_n 2, 1) := by decide +kernel
theorem dX5_advance_11 : decode cX5_advance 11 = .ok (.ifCond .eq 19, 3) := by decide +kernel
theorem dX5_advance_14 : decode cX5_advance 14 = .ok (.aload_n 0, 1) := by decide +kernel
theorem dX5_advance_15 : decode cX5_advance 15 = .ok (.getfield 93, 3) := by decide +kernel
theorem dX5_advance_18 : decode cX5_advance 18 = .ok (.iload_n 1, 1) := by decide +kernel
theorem dX5_advance_19 : decode cX5_advance 19 = .ok (.iadd, 1) := by decide +kernel
theorem dX5_advance_20 : decode cX5_advance 20 = .ok (.sipush 5000, 3) := by decide +kernel
theorem dX5_advance_23 : decode cX5_advance 23 = .ok (.if_icmp .gt 7, 3) := by decide +kernel
theorem dX5_advance_26 : decode cX5_advance 26 = .ok (.iconst 1, 1) := by decide +kernel
theorem dX5_advance_27 : decode cX5_advance 27 = .ok (.goto 4, 3) := by decide +kernel
theorem dX5_advance_30 : decode cX5_advance 30 = .ok (.iconst 0, 1) := by decide +kernel
theorem dX5_advance_31 : decode cX5_advance 31 = .ok (.iconst 1, 1) := by decide +kernel
theorem dX5_advance_32 : decode cX5_advance 32 = .ok (.invokevirtual 83, 3) := by decide +kernel
theorem dX5_advance_35 : decode cX5_advance 35 = .ok (.ifCond .ne 5, 3) := by decide +kernel
theorem dX5_advance_38 : decode cX5_advance 38 = .ok (.iconst 0, 1) := by decide +kernel
theorem dX5_advance_39 : decode cX5_advance 39 = .ok (.ireturn, 1) := by decide +kernel
theorem dX5_advance_40 : decode cX5_advance 40 = .ok (.aload_n 0, 1) := by decide +kernel
theorem dX5_advance_41 : decode cX5_advance 41 = .ok (.dup, 1) := by decide +kernel
theorem dX5_advance_42 : decode cX5_advance 42 = .ok (.getfield 93, 3) := by decide +kernel
theorem dX5_advance_45 : decode cX5_advance 45 = .ok (.iload_n 1, 1) := by decide +kernel
theorem dX5_advance_46 : decode cX5_advance 46 = .ok (.iadd, 1) := by decide +kernel
theorem dX5_advance_47 : decode cX5_advance 47 = .ok (.putfield 93, 3) := by decide +kernel
theorem dX5_advance_50 : decode cX5_advance 50 = .ok (.aload_n 0, 1) := by decide +kernel
theorem dX5_advance_51 : decode cX5_advance 51 = .ok (.getfield 93, 3) := by decide +kernel
theorem dX5_advance_54 : decode cX5_advance 54 = .ok (.ireturn, 1) := by decide +kernel
theorem dX5_comes_0 : decode cX5_comes 0 = .ok (.iconst 0, 1) := by decide +kernel
theorem dX5_comes_1 : decode cX5_comes 1 = .ok (.istore 4, 2) := by decide +kernel
theorem dX5_comes_3 : decode cX5_comes 3 = .ok (.iload_n 0, 1) := by decide +kernel
theorem dX5_comes_4 : decode cX5_comes 4 = .ok (.iconst 1, 1) := by decide +kernel
theorem dX5_comes_5 : decode cX5_comes 5 = .ok (.iadd, 1) := by decide +kernel
theorem dX5_comes_6 : decode cX5_comes 6 = .ok (.istore 5, 2) := by decide +kernel
theorem dX5_comes_8 : decode cX5_comes 8 = .ok (.iload 5, 2) := by decide +kernel
theorem dX5_comes_10 : decode cX5_comes 10 = .ok (.iload_n 1, 1) := by decide +kernel
theorem dX5_comes_11 : decode cX5_comes 11 = .ok (.if_icmp .gt 37, 3) := by decide +kernel
theorem dX5_comes_14 : decode cX5_comes 14 = .ok (.iload 5, 2) := by decide +kernel
theorem dX5_comes_16 : decode cX5_comes 16 = .ok (.iload_n 0, 1) := by decide +kernel
theorem dX5_comes_17 : decode cX5_comes 17 = .ok (.iload_n 3, 1) := by decide +kernel
theorem dX5_comes_18 : decode cX5_comes 18 = .ok (.iadd, 1) := by decide +kernel
theorem dX5_comes_19 : decode cX5_comes 19 = .ok (.if_icmp .gt 29, 3) := by decide +kernel
theorem dX5_comes_22 : decode cX5_comes 22 = .ok (.iload 4, 2) := by decide +kernel
theorem dX5_comes_24 : decode cX5_comes 24 = .ok (.ifCond .ne 11, 3) := by decide +kernel
theorem dX5_comes_27 : decode cX5_comes 27 = .ok (.iload 5, 2) := by decide +kernel
theorem dX5_comes_29 : decode cX5_comes 29 = .ok (.iload_n 3, 1) := by decide +kernel
theorem dX5_comes_30 : decode cX5_comes 30 = .ok (.irem, 1) := by decide +kernel
theorem dX5_comes_31 : decode cX5_comes 31 = .ok (.iload_n 2, 1) := by decide +kernel
theorem dX5_comes_32 : decode cX5_comes 32 = .ok (.if_icmp .ne 7, 3) := by decide +kernel
theorem dX5_comes_35 : decode cX5_comes 35 = .ok (.iconst 1, 1) := by decide +kernel
theorem dX5_comes_36 : decode cX5_comes 36 = .ok (.goto 4, 3) := by decide +kernel
theorem dX5_comes_39 : decode cX5_comes 39 = .ok (.iconst 0, 1) := by decide +kernel
theorem dX5_comes_40 : decode cX5_comes 40 = .ok (.istore 4, 2) := by decide +kernel
theorem dX5_comes_42 : decode cX5_comes 42 = .ok (.iinc 5 1, 3) := by decide +kernel
theorem dX5_comes_45 : decode cX5_comes 45 = .ok (.goto (-37), 3) := by decide +kernel
theorem dX5_comes_48 : decode cX5_comes 48 = .ok (.iload 4, 2) := by decide +kernel
theorem dX5_comes_50 : decode cX5_comes 50 = .ok (.ireturn, 1) := by decide +kernel
theorem dX5_isDueOn_0 : decode cX5_isDueOn 0 = .ok (.aload_n 0, 1) := by decide +kernel
theorem dX5_isDueOn_1 : decode cX5_isDueOn 1 = .ok (.getfield 38, 3) := by decide +kernel
theorem dX5_isDueOn_4 : decode cX5_isDueOn 4 = .ok (.iload_n 1, 1) := by decide +kernel
theorem dX5_isDueOn_5 : decode cX5_isDueOn 5 = .ok (.iaload, 1) := by decide +kernel
theorem dX5_isDueOn_6 : decode cX5_isDueOn 6 = .ok (.istore_n 3, 1) := by decide +kernel
theorem dX5_isDueOn_7 : decode cX5_isDueOn 7 = .ok (.aload_n 0, 1) := by decide +kernel
theorem dX5_isDueOn_8 : decode cX5_isDueOn 8 = .ok (.getfield 41, 3) := by decide +kernel
theorem dX5_isDueOn_11 : decode cX5_isDueOn 11 = .ok (.iload_n 1, 1) := by decide +kernel
theorem dX5_isDueOn_12 : decode cX5_isDueOn 12 = .ok (.iaload, 1) := by decide +kernel
theorem dX5_isDueOn_13 : decode cX5_isDueOn 13 = .ok (.ifCond .le 33, 3) := by decide +kernel
theorem dX5_isDueOn_16 : decode cX5_isDueOn 16 = .ok (.aload_n 0, 1) := by decide +kernel
theorem dX5_isDueOn_17 : decode cX5_isDueOn 17 = .ok (.getfield 47, 3) := by decide +kernel
theorem dX5_isDueOn_20 : decode cX5_isDueOn 20 = .ok (.iload_n 1, 1) := by decide +kernel
theorem dX5_isDueOn_21 : decode cX5_isDueOn 21 = .ok (.baload, 1) := by decide +kernel
theorem dX5_isDueOn_22 : decode cX5_isDueOn 22 = .ok (.ifCond .eq 20, 3) := by decide +kernel
theorem dX5_isDueOn_25 : decode cX5_isDueOn 25 = .ok (.iload_n 2, 1) := by decide +kernel
theorem dX5_isDueOn_26 : decode cX5_isDueOn 26 = .ok (.aload_n 0, 1) := by decide +kernel
theorem dX5_isDueOn_27 : decode cX5_isDueOn 27 = .ok (.getfield 44, 3) := by decide +kernel
theorem dX5_isDueOn_30 : decode cX5_isDueOn 30 = .ok (.iload_n 1, 1) := by decide +kernel
theorem dX5_isDueOn_31 : decode cX5_isDueOn 31 = .ok (.iaload, 1) := by decide +kernel
theorem dX5_isDueOn_32 : decode cX5_isDueOn 32 = .ok (.isub, 1) := by decide +kernel
theorem dX5_isDueOn_33 : decode cX5_isDueOn 33 = .ok (.aload_n 0, 1) := by decide +kernel
theorem dX5_isDueOn_34 : decode cX5_isDueOn 34 = .ok (.getfield 19, 3) := by decide +kernel
theorem dX5_isDueOn_37 : decode cX5_isDueOn 37 = .ok (.iload_n 3, 1) := by decide +kernel
theorem dX5_isDueOn_38 : decode cX5_isDueOn 38 = .ok (.iaload, 1) := by decide +kernel
theorem dX5_isDueOn_39 : decode cX5_isDueOn 39 = .ok (.if_icmp .lt 7, 3) := by decide +kernel
theorem dX5_isDueOn_42 : decode cX5_isDueOn 42 = .ok (.iconst 1, 1) := by decide +kernel
theorem dX5_isDueOn_43 : decode cX5_isDueOn 43 = .ok (.goto 4, 3) := by decide +kernel
theorem dX5_isDueOn_46 : decode cX5_isDueOn 46 = .ok (.iconst 0, 1) := by decide +kernel
theorem dX5_isDueOn_47 : decode cX5_isDueOn 47 = .ok (.istore 4, 2) := by decide +kernel
theorem dX5_isDueOn_49 : decode cX5_isDueOn 49 = .ok (.aload_n 0, 1) := by decide +kernel
theorem dX5_isDueOn_50 : decode cX5_isDueOn 50 = .ok (.getfield 7, 3) := by decide +kernel
theorem dX5_isDueOn_53 : decode cX5_isDueOn 53 = .ok (.iload_n 3, 1) := by decide +kernel
theorem dX5_isDueOn_54 : decode cX5_isDueOn 54 = .ok (.iaload, 1) := by decide +kernel
theorem dX5_isDueOn_55 : decode cX5_isDueOn 55 = .ok (.ifCond .le 22, 3) := by decide +kernel
theorem dX5_isDueOn_58 : decode cX5_isDueOn 58 = .ok (.aload_n 0, 1) := by decide +kernel
theorem dX5_isDueOn_59 : decode cX5_isDueOn 59 = .ok (.getfield 41, 3) := by decide +kernel
theorem dX5_isDueOn_62 : decode cX5_isDueOn 62 = .ok (.iload_n 1, 1) := by decide +kernel
theorem dX5_isDueOn_63 : decode cX5_isDueOn 63 = .ok (.iaload, 1) := by decide +kernel
theorem dX5_isDueOn_64 : decode cX5_isDueOn 64 = .ok (.aload_n 0, 1) := by decide +kernel
theorem dX5_isDueOn_65 : decode cX5_isDueOn 65 = .ok (.getfield 7, 3) := by decide +kernel
theorem dX5_isDueOn_68 : decode cX5_isDueOn 68 = .ok (.iload_n 3, 1) := by decide +kernel
theorem dX5_isDueOn_69 : decode cX5_isDueOn 69 = .ok (.iaload, 1) := by decide +kernel
theorem dX5_isDueOn_70 : decode cX5_isDueOn 70 = .ok (.if_icmp .lt 7, 3) := by decide +kernel
theorem dX5_isDueOn_73 : decode cX5_isDueOn 73 = .ok (.iconst 1, 1) := by decide +kernel
theorem dX5_isDueOn_74 : decode cX5_isDueOn 74 = .ok (.goto 4, 3) := by decide +kernel
theorem dX5_isDueOn_77 : decode cX5_isDueOn 77 = .ok (.iconst 0, 1) := by decide +kernel
theorem dX5_isDueOn_78 : decode cX5_isDueOn 78 = .ok (.istore 5, 2) := by decide +kernel
theorem dX5_isDueOn_80 : decode cX5_isDueOn 80 = .ok (.iload 4, 2) := by decide +kernel
theorem dX5_isDueOn_82 : decode cX5_isDueOn 82 = .ok (.ifCond .eq 54, 3) := by decide +kernel
theorem dX5_isDueOn_85 : decode cX5_isDueOn 85 = .ok (.iload 5, 2) := by decide +kernel
theorem dX5_isDueOn_87 : decode cX5_isDueOn 87 = .ok (.ifCond .ne 45, 3) := by decide +kernel
theorem dX5_isDueOn_90 : decode cX5_isDueOn 90 = .ok (.aload_n 0, 1) := by decide +kernel
theorem dX5_isDueOn_91 : decode cX5_isDueOn 91 = .ok (.getfield 44, 3) := by decide +kernel
theorem dX5_isDueOn_94 : decode cX5_isDueOn 94 = .ok (.iload_n 1, 1) := by decide +kernel
theorem dX5_isDueOn_95 : decode cX5_isDueOn 95 = .ok (.iaload, 1) := by decide +kernel
theorem dX5_isDueOn_96 : decode cX5_isDueOn 96 = .ok (.iload_n 2, 1) := by decide +kernel
theorem dX5_isDueOn_97 : decode cX5_isDueOn 97 = .ok (.aload_n 0, 1) := by decide +kernel
theorem dX5_isDueOn_98 : decode cX5_isDueOn 98 = .ok (.getfield 13, 3) := by decide +kernel
theorem dX5_isDueOn_101 : decode cX5_isDueOn 101 = .ok (.iload_n 3, 1) := by decide +kernel
theorem dX5_isDueOn_102 : decode cX5_isDueOn 102 = .ok (.iaload, 1) := by decide +kernel
theorem dX5_isDueOn_103 : decode cX5_isDueOn 103 = .ok (.bipush 7, 2) := by decide +kernel
theorem dX5_isDueOn_105 : decode cX5_isDueOn 105 = .ok (.invokestatic 96, 3) := by decide +kernel
theorem dX5_isDueOn_108 : decode cX5_isDueOn 108 = .ok (.ifCond .ne 24, 3) := by decide +kernel
theorem dX5_isDueOn_111 : decode cX5_isDueOn 111 = .ok (.aload_n 0, 1) := by decide +kernel
theorem dX5_isDueOn_112 : decode cX5_isDueOn 112 = .ok (.getfield 44, 3) := by decide +kernel
theorem dX5_isDueOn_115 : decode cX5_isDueOn 115 = .ok (.iload_n 1, 1) := by decide +kernel
theorem dX5_isDueOn_116 : decode cX5_isDueOn 116 = .ok (.iaload, 1) := by decide +kernel
theorem dX5_isDueOn_117 : decode cX5_isDueOn 117 = .ok (.iload_n 2, 1) := by decide +kernel
theorem dX5_isDueOn_118 : decode cX5_isDueOn 118 = .ok (.aload_n 0, 1) := by decide +kernel
theorem dX5_isDueOn_119 : decode cX5_isDueOn 119 = .ok (.getfield 16, 3) := by decide +kernel
theorem dX5_isDueOn_122 : decode cX5_isDueOn 122 = .ok (.iload_n 3, 1) := by decide +kernel
theorem dX5_isDueOn_123 : decode cX5_isDueOn 123 = .ok (.iaload, 1) := by decide +kernel
theorem dX5_isDueOn_124 : decode cX5_isDueOn 124 = .ok (.bipush 30, 2) := by decide +kernel
theorem dX5_isDueOn_126 : decode cX5_isDueOn 126 = .ok (.invokestatic 96, 3) := by decide +kernel
theorem dX5_isDueOn_129 : decode cX5_isDueOn 129 = .ok (.ifCond .eq 7, 3) := by decide +kernel
theorem dX5_isDueOn_132 : decode cX5_isDueOn 132 = .ok (.iconst 1, 1) := by decide +kernel
theorem dX5_isDueOn_133 : decode cX5_isDueOn 133 = .ok (.goto 4, 3) := by decide +kernel
theorem dX5_isDueOn_136 : decode cX5_isDueOn 136 = .ok (.iconst 0, 1) := by decide +kernel
theorem dX5_isDueOn_137 : decode cX5_isDueOn 137 = .ok (.ireturn, 1) := by decide +kernel
theorem dX5_isHeld_0 : decode cX5_isHeld 0 = .ok (.iconst 0, 1) := by decide +kernel
theorem dX5_isHeld_1 : decode cX5_isHeld 1 = .ok (.istore_n 2, 1) := by decide +kernel
theorem dX5_isHeld_2 : decode cX5_isHeld 2 = .ok (.iconst 0, 1) := by decide +kernel
theorem dX5_isHeld_3 : decode cX5_isHeld 3 = .ok (.istore_n 3, 1) := by decide +kernel
theorem dX5_isHeld_4 : decode cX5_isHeld 4 = .ok (.iload_n 3, 1) := by decide +kernel
theorem dX5_isHeld_5 : decode cX5_isHeld 5 = .ok (.iconst 4, 1) := by decide +kernel
theorem dX5_isHeld_6 : decode cX5_isHeld 6 = .ok (.if_icmp .ge 29, 3) := by decide +kernel
theorem dX5_isHeld_9 : decode cX5_isHeld 9 = .ok (.iload_n 2, 1) := by decide +kernel
theorem dX5_isHeld_10 : decode cX5_isHeld 10 = .ok (.ifCond .ne 13, 3) := by decide +kernel
theorem dX5_isHeld_13 : decode cX5_isHeld 13 = .ok (.aload_n 0, 1) := by decide +kernel
theorem dX5_isHeld_14 : decode cX5_isHeld 14 = .ok (.getfield 68, 3) := by decide +kernel
theorem dX5_isHeld_17 : decode cX5_isHeld 17 = .ok (.iload_n 3, 1) := by decide +kernel
theorem dX5_isHeld_18 : decode cX5_isHeld 18 = .ok (.iaload, 1) := by decide +kernel
theorem dX5_isHeld_19 : decode cX5_isHeld 19 = .ok (.iload_n 1, 1) := by decide +kernel
theorem dX5_isHeld_20 : decode cX5_isHeld 20 = .ok (.if_icmp .ne 7, 3) := by decide +kernel
theorem dX5_isHeld_23 : decode cX5_isHeld 23 = .ok (.iconst 1, 1) := by decide +kernel
theorem dX5_isHeld_24 : decode cX5_isHeld 24 = .ok (.goto 4, 3) := by decide +kernel
theorem dX5_isHeld_27 : decode cX5_isHeld 27 = .ok (.iconst 0, 1) := by decide +kernel
theorem dX5_isHeld_28 : decode cX5_isHeld 28 = .ok (.istore_n 2, 1) := by decide +kernel
theorem dX5_isHeld_29 : decode cX5_isHeld 29 = .ok (.iinc 3 1, 3) := by decide +kernel
theorem dX5_isHeld_32 : decode cX5_isHeld 32 = .ok (.goto (-28), 3) := by decide +kernel
theorem dX5_isHeld_35 : decode cX5_isHeld 35 = .ok (.iload_n 2, 1) := by decide +kernel
theorem dX5_isHeld_36 : decode cX5_isHeld 36 = .ok (.ireturn, 1) := by decide +kernel
theorem dX5_oldsOf_0 : decode cX5_oldsOf 0 = .ok (.iconst 0, 1) := by decide +kernel
theorem dX5_oldsOf_1 : decode cX5_oldsOf 1 = .ok (.istore_n 2, 1) := by decide +kernel
theorem dX5_oldsOf_2 : decode cX5_oldsOf 2 = .ok (.iconst 0, 1) := by decide +kernel
theorem dX5_oldsOf_3 : decode cX5_oldsOf 3 = .ok (.istore_n 3, 1) := by decide +kernel
theorem dX5_oldsOf_4 : decode cX5_oldsOf 4 = .ok (.iload_n 3, 1) := by decide +kernel
theorem dX5_oldsOf_5 : decode cX5_oldsOf 5 = .ok (.aload_n 0, 1) := by decide +kernel
theorem dX5_oldsOf_6 : decode cX5_oldsOf 6 = .ok (.getfield 100, 3) := by decide +kernel
theorem dX5_oldsOf_9 : decode cX5_oldsOf 9 = .ok (.if_icmp .ge 27, 3) := by decide +kernel
theorem dX5_oldsOf_12 : decode cX5_oldsOf 12 = .ok (.iload_n 2, 1) := by decide +kernel
theorem dX5_oldsOf_13 : decode cX5_oldsOf 13 = .ok (.aload_n 0, 1) := by decide +kernel
theorem dX5_oldsOf_14 : decode cX5_oldsOf 14 = .ok (.getfield 53, 3) := by decide +kernel
theorem dX5_oldsOf_17 : decode cX5_oldsOf 17 = .ok (.iload_n 3, 1) := by decide +kernel
theorem dX5_oldsOf_18 : decode cX5_oldsOf 18 = .ok (.iaload, 1) := by decide +kernel
theorem dX5_oldsOf_19 : decode cX5_oldsOf 19 = .ok (.iload_n 1, 1) := by decide +kernel
theorem dX5_oldsOf_20 : decode cX5_oldsOf 20 = .ok (.if_icmp .ne 7, 3) := by decide +kernel
theorem dX5_oldsOf_23 : decode cX5_oldsOf 23 = .ok (.iconst 1, 1) := by decide +kernel
theorem dX5_oldsOf_24 : decode cX5_oldsOf 24 = .ok (.goto 4, 3) := by decide +kernel
theorem dX5_oldsOf_27 : decode cX5_oldsOf 27 = .ok (.iconst 0, 1) := by decide +kernel
theorem dX5_oldsOf_28 : decode cX5_oldsOf 28 = .ok (.iadd, 1) := by decide +kernel
theorem dX5_oldsOf_29 : decode cX5_oldsOf 29 = .ok (.istore_n 2, 1) := by decide +kernel
theorem dX5_oldsOf_30 : decode cX5_oldsOf 30 = .ok (.iinc 3 1, 3) := by decide +kernel
theorem dX5_oldsOf_33 : decode cX5_oldsOf 33 = .ok (.goto (-29), 3) := by decide +kernel
theorem dX5_oldsOf_36 : decode cX5_oldsOf 36 = .ok (.iload_n 2, 1) := by decide +kernel
theorem dX5_oldsOf_37 : decode cX5_oldsOf 37 = .ok (.ireturn, 1) := by decide +kernel
theorem dX5_throwsAway_0 : decode cX5_throwsAway 0 = .ok (.aload_n 0, 1) := by decide +kernel
theorem dX5_throwsAway_1 : decode cX5_throwsAway 1 = .ok (.getfield 50, 3) := by decide +kernel
theorem dX5_throwsAway_4 : decode cX5_throwsAway 4 = .ok (.aload_n 0, 1) := by decide +kernel
theorem dX5_throwsAway_5 : decode cX5_throwsAway 5 = .ok (.getfield 53, 3) := by decide +kernel
theorem dX5_throwsAway_8 : decode cX5_throwsAway 8 = .ok (.iload_n 1, 1) := by decide +kernel
theorem dX5_throwsAway_9 : decode cX5_throwsAway 9 = .ok (.iaload, 1) := by decide +kernel
theorem dX5_throwsAway_10 : decode cX5_throwsAway 10 = .ok (.dup2, 1) := by decide +kernel
theorem dX5_throwsAway_11 : decode cX5_throwsAway 11 = .ok (.iaload, 1) := by decide +kernel
theorem dX5_throwsAway_12 : decode cX5_throwsAway 12 = .ok (.aload_n 0, 1) := by decide +kernel
theorem dX5_throwsAway_13 : decode cX5_throwsAway 13 = .ok (.getfield 56, 3) := by decide +kernel
theorem dX5_throwsAway_16 : decode cX5_throwsAway 16 = .ok (.iload_n 1, 1) := by decide +kernel
theorem dX5_throwsAway_17 : decode cX5_throwsAway 17 = .ok (.iaload, 1) := by decide +kernel
theorem dX5_throwsAway_18 : decode cX5_throwsAway 18 = .ok (.iadd, 1) := by decide +kernel
theorem dX5_throwsAway_19 : decode cX5_throwsAway 19 = .ok (.iastore, 1) := by decide +kernel
theorem dX5_throwsAway_20 : decode cX5_throwsAway 20 = .ok (.aload_n 0, 1) := by decide +kernel
theorem dX5_throwsAway_21 : decode cX5_throwsAway 21 = .ok (.dup, 1) := by decide +kernel
theorem dX5_throwsAway_22 : decode cX5_throwsAway 22 = .ok (.getfield 100, 3) := by decide +kernel
theorem dX5_throwsAway_25 : decode cX5_throwsAway 25 = .ok (.iconst 1, 1) := by decide +kernel
theorem dX5_throwsAway_26 : decode cX5_throwsAway 26 = .ok (.isub, 1) := by decide +kernel
theorem dX5_throwsAway_27 : decode cX5_throwsAway 27 = .ok (.putfield 100, 3) := by decide +kernel
theorem dX5_throwsAway_30 : decode cX5_throwsAway 30 = .ok (.iload_n 1, 1) := by decide +kernel
theorem dX5_throwsAway_31 : decode cX5_throwsAway 31 = .ok (.istore_n 2, 1) := by decide +kernel
theorem dX5_throwsAway_32 : decode cX5_throwsAway 32 = .ok (.iload_n 2, 1) := by decide +kernel
theorem dX5_throwsAway_33 : decode cX5_throwsAway 33 = .ok (.aload_n 0, 1) := by decide +kernel
theorem dX5_throwsAway_34 : decode cX5_throwsAway 34 = .ok (.getfield 100, 3) := by decide +kernel
theorem dX5_throwsAway_37 : decode cX5_throwsAway 37 = .ok (.if_icmp .ge 65, 3) := by decide +kernel
theorem dX5_throwsAway_40 : decode cX5_throwsAway 40 = .ok (.aload_n 0, 1) := by decide +kernel
theorem dX5_throwsAway_41 : decode cX5_throwsAway 41 = .ok (.getfield 53, 3) := by decide +kernel
theorem dX5_throwsAway_44 : decode cX5_throwsAway 44 = .ok (.iload_n 2, 1) := by decide +kernel
theorem dX5_throwsAway_45 : decode cX5_throwsAway 45 = .ok (.aload_n 0, 1) := by decide +kernel
theorem dX5_throwsAway_46 : decode cX5_throwsAway 46 = .ok (.getfield 53, 3) := by decide +kernel
theorem dX5_throwsAway_49 : decode cX5_throwsAway 49 = .ok (.iload_n 2, 1) := by decide +kernel
theorem dX5_throwsAway_50 : decode cX5_throwsAway 50 = .ok (.iconst 1, 1) := by decide +kernel
theorem dX5_throwsAway_51 : decode cX5_throwsAway 51 = .ok (.iadd, 1) := by decide +kernel
theorem dX5_throwsAway_52 : decode cX5_throwsAway 52 = .ok (.iaload, 1) := by decide +kernel
theorem dX5_throwsAway_53 : decode cX5_throwsAway 53 = .ok (.iastore, 1) := by decide +kernel
theorem dX5_throwsAway_54 : decode cX5_throwsAway 54 = .ok (.aload_n 0, 1) := by decide +kernel
theorem dX5_throwsAway_55 : decode cX5_throwsAway 55 = .ok (.getfield 56, 3) := by decide +kernel
theorem dX5_throwsAway_58 : decode cX5_throwsAway 58 = .ok (.iload_n 2, 1) := by decide +kernel
theorem dX5_throwsAway_59 : decode cX5_throwsAway 59 = .ok (.aload_n 0, 1) := by decide +kernel
theorem dX5_throwsAway_60 : decode cX5_throwsAway 60 = .ok (.getfield 56, 3) := by decide +kernel
theorem dX5_throwsAway_63 : decode cX5_throwsAway 63 = .ok (.iload_n 2, 1) := by decide +kernel
theorem dX5_throwsAway_64 : decode cX5_throwsAway 64 = .ok (.iconst 1, 1) := by decide +kernel
theorem dX5_throwsAway_65 : decode cX5_throwsAway 65 = .ok (.iadd, 1) := by decide +kernel
theorem dX5_throwsAway_66 : decode cX5_throwsAway 66 = .ok (.iaload, 1) := by decide +kernel
theorem dX5_throwsAway_67 : decode cX5_throwsAway 67 = .ok (.iastore, 1) := by decide +kernel
theorem dX5_throwsAway_68 : decode cX5_throwsAway 68 = .ok (.aload_n 0, 1) := by decide +kernel
theorem dX5_throwsAway_69 : decode cX5_throwsAway 69 = .ok (.getfield 59, 3) := by decide +kernel
theorem dX5_throwsAway_72 : decode cX5_throwsAway 72 = .ok (.iload_n 2, 1) := by decide +kernel
theorem dX5_throwsAway_73 : decode cX5_throwsAway 73 = .ok (.aload_n 0, 1) := by decide +kernel
theorem dX5_throwsAway_74 : decode cX5_throwsAway 74 = .ok (.getfield 59, 3) := by decide +kernel
theorem dX5_throwsAway_77 : decode cX5_throwsAway 77 = .ok (.iload_n 2, 1) := by decide +kernel
theorem dX5_throwsAway_78 : decode cX5_throwsAway 78 = .ok (.iconst 1, 1) := by decide +kernel
theorem dX5_throwsAway_79 : decode cX5_throwsAway 79 = .ok (.iadd, 1) := by decide +kernel
theorem dX5_throwsAway_80 : decode cX5_throwsAway 80 = .ok (.iaload, 1) := by decide +kernel
theorem dX5_throwsAway_81 : decode cX5_throwsAway 81 = .ok (.iastore, 1) := by decide +kernel
theorem dX5_throwsAway_82 : decode cX5_throwsAway 82 = .ok (.aload_n 0, 1) := by decide +kernel
theorem dX5_throwsAway_83 : decode cX5_throwsAway 83 = .ok (.getfield 62, 3) := by decide +kernel
theorem dX5_throwsAway_86 : decode cX5_throwsAway 86 = .ok (.iload_n 2, 1) := by decide +kernel
theorem dX5_throwsAway_87 : decode cX5_throwsAway 87 = .ok (.aload_n 0, 1) := by decide +kernel
theorem dX5_throwsAway_88 : decode cX5_throwsAway 88 = .ok (.getfield 62, 3) := by decide +kernel
theorem dX5_throwsAway_91 : decode cX5_throwsAway 91 = .ok (.iload_n 2, 1) := by decide +kernel
theorem dX5_throwsAway_92 : decode cX5_throwsAway 92 = .ok (.iconst 1, 1) := by decide +kernel
theorem dX5_throwsAway_93 : decode cX5_throwsAway 93 = .ok (.iadd, 1) := by decide +kernel
theorem dX5_throwsAway_94 : decode cX5_throwsAway 94 = .ok (.baload, 1) := by decide +kernel
theorem dX5_throwsAway_95 : decode cX5_throwsAway 95 = .ok (.bastore, 1) := by decide +kernel
theorem dX5_throwsAway_96 : decode cX5_throwsAway 96 = .ok (.iinc 2 1, 3) := by decide +kernel
theorem dX5_throwsAway_99 : decode cX5_throwsAway 99 = .ok (.goto (-67), 3) := by decide +kernel
theorem dX5_throwsAway_102 : decode cX5_throwsAway 102 = .ok (.iconst 0, 1) := by decide +kernel
theorem dX5_throwsAway_103 : decode cX5_throwsAway 103 = .ok (.istore_n 2, 1) := by decide +kernel
theorem dX5_throwsAway_104 : decode cX5_throwsAway 104 = .ok (.iload_n 2, 1) := by decide +kernel
theorem dX5_throwsAway_105 : decode cX5_throwsAway 105 = .ok (.iconst 4, 1) := by decide +kernel
theorem dX5_throwsAway_106 : decode cX5_throwsAway 106 = .ok (.if_icmp .ge 33, 3) := by decide +kernel
theorem dX5_throwsAway_109 : decode cX5_throwsAway 109 = .ok (.aload_n 0, 1) := by decide +kernel
theorem dX5_throwsAway_110 : decode cX5_throwsAway 110 = .ok (.getfield 68, 3) := by decide +kernel
theorem dX5_throwsAway_113 : decode cX5_throwsAway 113 = .ok (.iload_n 2, 1) := by decide +kernel
theorem dX5_throwsAway_114 : decode cX5_throwsAway 114 = .ok (.dup2, 1) := by decide +kernel
theorem dX5_throwsAway_115 : decode cX5_throwsAway 115 = .ok (.iaload, 1) := by decide +kernel
theorem dX5_throwsAway_116 : decode cX5_throwsAway 116 = .ok (.aload_n 0, 1) := by decide +kernel
theorem dX5_throwsAway_117 : decode cX5_throwsAway 117 = .ok (.getfield 68, 3) := by decide +kernel
theorem dX5_throwsAway_120 : decode cX5_throwsAway 120 = .ok (.iload_n 2, 1) := by decide +kernel
theorem dX5_throwsAway_121 : decode cX5_throwsAway 121 = .ok (.iaload, 1) := by decide +kernel
theorem dX5_throwsAway_122 : decode cX5_throwsAway 122 = .ok (.iload_n 1, 1) := by decide +kernel
theorem dX5_throwsAway_123 : decode cX5_throwsAway 123 = .ok (.if_icmp .le 7, 3) := by decide +kernel
theorem dX5_throwsAway_126 : decode cX5_throwsAway 126 = .ok (.iconst 1, 1) := by decide +kernel
theorem dX5_throwsAway_127 : decode cX5_throwsAway 127 = .ok (.goto 4, 3) := by decide +kernel
theorem dX5_throwsAway_130 : decode cX5_throwsAway 130 = .ok (.iconst 0, 1) := by decide +kernel
theorem dX5_throwsAway_131 : decode cX5_throwsAway 131 = .ok (.isub, 1) := by decide +kernel
theorem dX5_throwsAway_132 : decode cX5_throwsAway 132 = .ok (.iastore, 1) := by decide +kernel
theorem dX5_throwsAway_133 : decode cX5_throwsAway 133 = .ok (.iinc 2 1, 3) := by decide +kernel
theorem dX5_throwsAway_136 : decode cX5_throwsAway 136 = .ok (.goto (-32), 3) := by decide +kernel
theorem dX5_throwsAway_139 : decode cX5_throwsAway 139 = .ok (.return_, 1) := by decide +kernel
theorem dX5_turns_0 : decode cX5_turns 0 = .ok (.aload_n 0, 1) := by decide +kernel
theorem dX5_turns_1 : decode cX5_turns 1 = .ok (.getfield 38, 3) := by decide +kernel
theorem dX5_turns_4 : decode cX5_turns 4 = .ok (.iload_n 1, 1) := by decide +kernel
theorem dX5_turns_5 : decode cX5_turns 5 = .ok (.iaload, 1) := by decide +kernel
theorem dX5_turns_6 : decode cX5_turns 6 = .ok (.istore_n 2, 1) := by decide +kernel
theorem dX5_turns_7 : decode cX5_turns 7 = .ok (.aload_n 0, 1) := by decide +kernel
theorem dX5_turns_8 : decode cX5_turns 8 = .ok (.getfield 53, 3) := by decide +kernel
theorem dX5_turns_11 : decode cX5_turns 11 = .ok (.aload_n 0, 1) := by decide +kernel
theorem dX5_turns_12 : decode cX5_turns 12 = .ok (.getfield 100, 3) := by decide +kernel
theorem dX5_turns_15 : decode cX5_turns 15 = .ok (.iload_n 1, 1) := by decide +kernel
theorem dX5_turns_16 : decode cX5_turns 16 = .ok (.iastore, 1) := by decide +kernel
theorem dX5_turns_17 : decode cX5_turns 17 = .ok (.aload_n 0, 1) := by decide +kernel
theorem dX5_turns_18 : decode cX5_turns 18 = .ok (.getfield 56, 3) := by decide +kernel
theorem dX5_turns_21 : decode cX5_turns 21 = .ok (.aload_n 0, 1) := by decide +kernel
theorem dX5_turns_22 : decode cX5_turns 22 = .ok (.getfield 100, 3) := by decide +kernel
theorem dX5_turns_25 : decode cX5_turns 25 = .ok (.aload_n 0, 1) := by decide +kernel
theorem dX5_turns_26 : decode cX5_turns 26 = .ok (.getfield 41, 3) := by decide +kernel
theorem dX5_turns_29 : decode cX5_turns 29 = .ok (.iload_n 1, 1) := by decide +kernel
theorem dX5_turns_30 : decode cX5_turns 30 = .ok (.iaload, 1) := by decide +kernel
theorem dX5_turns_31 : decode cX5_turns 31 = .ok (.iastore, 1) := by decide +kernel
theorem dX5_turns_32 : decode cX5_turns 32 = .ok (.aload_n 0, 1) := by decide +kernel
theorem dX5_turns_33 : decode cX5_turns 33 = .ok (.getfield 59, 3) := by decide +kernel
theorem dX5_turns_36 : decode cX5_turns 36 = .ok (.aload_n 0, 1) := by decide +kernel
theorem dX5_turns_37 : decode cX5_turns 37 = .ok (.getfield 100, 3) := by decide +kernel
theorem dX5_turns_40 : decode cX5_turns 40 = .ok (.aload_n 0, 1) := by decide +kernel
theorem dX5_turns_41 : decode cX5_turns 41 = .ok (.getfield 93, 3) := by decide +kernel
theorem dX5_turns_44 : decode cX5_turns 44 = .ok (.iastore, 1) := by decide +kernel
theorem dX5_turns_45 : decode cX5_turns 45 = .ok (.aload_n 0, 1) := by decide +kernel
theorem dX5_turns_46 : decode cX5_turns 46 = .ok (.getfield 62, 3) := by decide +kernel
theorem dX5_turns_49 : decode cX5_turns 49 = .ok (.aload_n 0, 1) := by decide +kernel
theorem dX5_turns_50 : decode cX5_turns 50 = .ok (.getfield 100, 3) := by decide +kernel
theorem dX5_turns_53 : decode cX5_turns 53 = .ok (.iconst 0, 1) := by decide +kernel
theorem dX5_turns_54 : decode cX5_turns 54 = .ok (.bastore, 1) := by decide +kernel
theorem dX5_turns_55 : decode cX5_turns 55 = .ok (.iconst 0, 1) := by decide +kernel
theorem dX5_turns_56 : decode cX5_turns 56 = .ok (.istore_n 3, 1) := by decide +kernel
theorem dX5_turns_57 : decode cX5_turns 57 = .ok (.iload_n 3, 1) := by decide +kernel
theorem dX5_turns_58 : decode cX5_turns 58 = .ok (.iconst 4, 1) := by decide +kernel
theorem dX5_turns_59 : decode cX5_turns 59 = .ok (.if_icmp .ge 48, 3) := by decide +kernel
theorem dX5_turns_62 : decode cX5_turns 62 = .ok (.aload_n 0, 1) := by decide +kernel
theorem dX5_turns_63 : decode cX5_turns 63 = .ok (.getfield 68, 3) := by decide +kernel
theorem dX5_turns_66 : decode cX5_turns 66 = .ok (.iload_n 3, 1) := by decide +kernel
theorem dX5_turns_67 : decode cX5_turns 67 = .ok (.aload_n 0, 1) := by decide +kernel
theorem dX5_turns_68 : decode cX5_turns 68 = .ok (.getfield 65, 3) := by decide +kernel
theorem dX5_turns_71 : decode cX5_turns 71 = .ok (.iload_n 3, 1) := by decide +kernel
theorem dX5_turns_72 : decode cX5_turns 72 = .ok (.iaload, 1) := by decide +kernel
theorem dX5_turns_73 : decode cX5_turns 73 = .ok (.iload_n 1, 1) := by decide +kernel
theorem dX5_turns_74 : decode cX5_turns 74 = .ok (.if_icmp .ne 20, 3) := by decide +kernel
theorem dX5_turns_77 : decode cX5_turns 77 = .ok (.aload_n 0, 1) := by decide +kernel
theorem dX5_turns_78 : decode cX5_turns 78 = .ok (.getfield 68, 3) := by decide +kernel
theorem dX5_turns_81 : decode cX5_turns 81 = .ok (.iload_n 3, 1) := by decide +kernel
theorem dX5_turns_82 : decode cX5_turns 82 = .ok (.iaload, 1) := by decide +kernel
theorem dX5_turns_83 : decode cX5_turns 83 = .ok (.iconst (-1), 1) := by decide +kernel
theorem dX5_turns_84 : decode cX5_turns 84 = .ok (.if_icmp .ne 10, 3) := by decide +kernel
theorem dX5_turns_87 : decode cX5_turns 87 = .ok (.aload_n 0, 1) := by decide +kernel
theorem dX5_turns_88 : decode cX5_turns 88 = .ok (.getfield 100, 3) := by decide +kernel
theorem dX5_turns_91 : decode cX5_turns 91 = .ok (.goto 9, 3) := by decide +kernel
theorem dX5_turns_94 : decode cX5_turns 94 = .ok (.aload_n 0, 1) := by decide +kernel
theorem dX5_turns_95 : decode cX5_turns 95 = .ok (.getfield 68, 3) := by decide +kernel
theorem dX5_turns_98 : decode cX5_turns 98 = .ok (.iload_n 3, 1) := by decide +kernel
theorem dX5_turns_99 : decode cX5_turns 99 = .ok (.iaload, 1) := by decide +kernel
theorem dX5_turns_100 : decode cX5_turns 100 = .ok (.iastore, 1) := by decide +kernel
theorem dX5_turns_101 : decode cX5_turns 101 = .ok (.iinc 3 1, 3) := by decide +kernel
theorem dX5_turns_104 : decode cX5_turns 104 = .ok (.goto (-47), 3) := by decide +kernel
theorem dX5_turns_107 : decode cX5_turns 107 = .ok (.aload_n 0, 1) := by decide +kernel
theorem dX5_turns_108 : decode cX5_turns 108 = .ok (.dup, 1) := by decide +kernel
theorem dX5_turns_109 : decode cX5_turns 109 = .ok (.getfield 100, 3) := by decide +kernel
theorem dX5_turns_112 : decode cX5_turns 112 = .ok (.iconst 1, 1) := by decide +kernel
theorem dX5_turns_113 : decode cX5_turns 113 = .ok (.iadd, 1) := by decide +kernel
theorem dX5_turns_114 : decode cX5_turns 114 = .ok (.putfield 100, 3) := by decide +kernel
theorem dX5_turns_117 : decode cX5_turns 117 = .ok (.aload_n 0, 1) := by decide +kernel
theorem dX5_turns_118 : decode cX5_turns 118 = .ok (.getfield 41, 3) := by decide +kernel
theorem dX5_turns_121 : decode cX5_turns 121 = .ok (.iload_n 1, 1) := by decide +kernel
theorem dX5_turns_122 : decode cX5_turns 122 = .ok (.iconst 0, 1) := by decide +kernel
theorem dX5_turns_123 : decode cX5_turns 123 = .ok (.iastore, 1) := by decide +kernel
theorem dX5_turns_124 : decode cX5_turns 124 = .ok (.aload_n 0, 1) := by decide +kernel
theorem dX5_turns_125 : decode cX5_turns 125 = .ok (.getfield 44, 3) := by decide +kernel
theorem dX5_turns_128 : decode cX5_turns 128 = .ok (.iload_n 1, 1) := by decide +kernel
theorem dX5_turns_129 : decode cX5_turns 129 = .ok (.aload_n 0, 1) := by decide +kernel
theorem dX5_turns_130 : decode cX5_turns 130 = .ok (.getfield 93, 3) := by decide +kernel
theorem dX5_turns_133 : decode cX5_turns 133 = .ok (.iastore, 1) := by decide +kernel
theorem dX5_turns_134 : decode cX5_turns 134 = .ok (.aload_n 0, 1) := by decide +kernel
theorem dX5_turns_135 : decode cX5_turns 135 = .ok (.getfield 47, 3) := by decide +kernel
theorem dX5_turns_138 : decode cX5_turns 138 = .ok (.iload_n 1, 1) := by decide +kernel
theorem dX5_turns_139 : decode cX5_turns 139 = .ok (.iconst 1, 1) := by decide +kernel
theorem dX5_turns_140 : decode cX5_turns 140 = .ok (.bastore, 1) := by decide +kernel
theorem dX5_turns_141 : decode cX5_turns 141 = .ok (.iconst 0, 1) := by decide +kernel
theorem dX5_turns_142 : decode cX5_turns 142 = .ok (.istore_n 3, 1) := by decide +kernel
theorem dX5_turns_143 : decode cX5_turns 143 = .ok (.iload_n 3, 1) := by decide +kernel
theorem dX5_turns_144 : decode cX5_turns 144 = .ok (.aload_n 0, 1) := by decide +kernel
theorem dX5_turns_145 : decode cX5_turns 145 = .ok (.getfield 100, 3) := by decide +kernel
theorem dX5_turns_148 : decode cX5_turns 148 = .ok (.iconst 1, 1) := by decide +kernel
theorem dX5_turns_149 : decode cX5_turns 149 = .ok (.isub, 1) := by decide +kernel
theorem dX5_turns_150 : decode cX5_turns 150 = .ok (.if_icmp .ge 56, 3) := by decide +kernel
theorem dX5_turns_153 : decode cX5_turns 153 = .ok (.aload_n 0, 1) := by decide +kernel
theorem dX5_turns_154 : decode cX5_turns 154 = .ok (.getfield 62, 3) := by decide +kernel
theorem dX5_turns_157 : decode cX5_turns 157 = .ok (.iload_n 3, 1) := by decide +kernel
theorem dX5_turns_158 : decode cX5_turns 158 = .ok (.aload_n 0, 1) := by decide +kernel
theorem dX5_turns_159 : decode cX5_turns 159 = .ok (.getfield 62, 3) := by decide +kernel
theorem dX5_turns_162 : decode cX5_turns 162 = .ok (.iload_n 3, 1) := by decide +kernel
theorem dX5_turns_163 : decode cX5_turns 163 = .ok (.baload, 1) := by decide +kernel
theorem dX5_turns_164 : decode cX5_turns 164 = .ok (.ifCond .ne 30, 3) := by decide +kernel
theorem dX5_turns_167 : decode cX5_turns 167 = .ok (.aload_n 0, 1) := by decide +kernel
theorem dX5_turns_168 : decode cX5_turns 168 = .ok (.getfield 28, 3) := by decide +kernel
theorem dX5_turns_171 : decode cX5_turns 171 = .ok (.iload_n 2, 1) := by decide +kernel
theorem dX5_turns_172 : decode cX5_turns 172 = .ok (.baload, 1) := by decide +kernel
theorem dX5_turns_173 : decode cX5_turns 173 = .ok (.ifCond .eq 25, 3) := by decide +kernel
theorem dX5_turns_176 : decode cX5_turns 176 = .ok (.aload_n 0, 1) := by decide +kernel
theorem dX5_turns_177 : decode cX5_turns 177 = .ok (.getfield 53, 3) := by decide +kernel
theorem dX5_turns_180 : decode cX5_turns 180 = .ok (.iload_n 3, 1) := by decide +kernel
theorem dX5_turns_181 : decode cX5_turns 181 = .ok (.iaload, 1) := by decide +kernel
theorem dX5_turns_182 : decode cX5_turns 182 = .ok (.iload_n 1, 1) := by decide +kernel
theorem dX5_turns_183 : decode cX5_turns 183 = .ok (.if_icmp .ne 15, 3) := by decide +kernel
theorem dX5_turns_186 : decode cX5_turns 186 = .ok (.aload_n 0, 1) := by decide +kernel
theorem dX5_turns_187 : decode cX5_turns 187 = .ok (.iload_n 3, 1) := by decide +kernel
theorem dX5_turns_188 : decode cX5_turns 188 = .ok (.invokevirtual 103, 3) := by decide +kernel
theorem dX5_turns_191 : decode cX5_turns 191 = .ok (.ifCond .ne 7, 3) := by decide +kernel
theorem dX5_turns_194 : decode cX5_turns 194 = .ok (.iconst 1, 1) := by decide +kernel
theorem dX5_turns_195 : decode cX5_turns 195 = .ok (.goto 4, 3) := by decide +kernel
theorem dX5_turns_198 : decode cX5_turns 198 = .ok (.iconst 0, 1) := by decide +kernel
theorem dX5_turns_199 : decode cX5_turns 199 = .ok (.bastore, 1) := by decide +kernel
theorem dX5_turns_200 : decode cX5_turns 200 = .ok (.iinc 3 1, 3) := by decide +kernel
theorem dX5_turns_203 : decode cX5_turns 203 = .ok (.goto (-60), 3) := by decide +kernel
theorem dX5_turns_206 : decode cX5_turns 206 = .ok (.iconst 0, 1) := by decide +kernel
theorem dX5_turns_207 : decode cX5_turns 207 = .ok (.istore_n 3, 1) := by decide +kernel
theorem dX5_turns_208 : decode cX5_turns 208 = .ok (.aload_n 0, 1) := by decide +kernel
theorem dX5_turns_209 : decode cX5_turns 209 = .ok (.iload_n 1, 1) := by decide +kernel
theorem dX5_turns_210 : decode cX5_turns 210 = .ok (.invokevirtual 106, 3) := by decide +kernel
theorem dX5_turns_213 : decode cX5_turns 213 = .ok (.istore 4, 2) := by decide +kernel
theorem dX5_turns_215 : decode cX5_turns 215 = .ok (.iconst 0, 1) := by decide +kernel
theorem dX5_turns_216 : decode cX5_turns 216 = .ok (.istore 5, 2) := by decide +kernel
theorem dX5_turns_218 : decode cX5_turns 218 = .ok (.iload 5, 2) := by decide +kernel
theorem dX5_turns_220 : decode cX5_turns 220 = .ok (.aload_n 0, 1) := by decide +kernel
theorem dX5_turns_221 : decode cX5_turns 221 = .ok (.getfield 100, 3) := by decide +kernel
theorem dX5_turns_224 : decode cX5_turns 224 = .ok (.if_icmp .ge 112, 3) := by decide +kernel
theorem dX5_turns_227 : decode cX5_turns 227 = .ok (.aload_n 0, 1) := by decide +kernel
theorem dX5_turns_228 : decode cX5_turns 228 = .ok (.getfield 93, 3) := by decide +kernel
theorem dX5_turns_231 : decode cX5_turns 231 = .ok (.aload_n 0, 1) := by decide +kernel
theorem dX5_turns_232 : decode cX5_turns 232 = .ok (.getfield 59, 3) := by decide +kernel
theorem dX5_turns_235 : decode cX5_turns 235 = .ok (.iload 5, 2) := by decide +kernel
theorem dX5_turns_237 : decode cX5_turns 237 = .ok (.iaload, 1) := by decide +kernel
theorem dX5_turns_238 : decode cX5_turns 238 = .ok (.isub, 1) := by decide +kernel
theorem dX5_turns_239 : decode cX5_turns 239 = .ok (.istore 6, 2) := by decide +kernel
theorem dX5_turns_241 : decode cX5_turns 241 = .ok (.iload 4, 2) := by decide +kernel
theorem dX5_turns_243 : decode cX5_turns 243 = .ok (.aload_n 0, 1) := by decide +kernel
theorem dX5_turns_244 : decode cX5_turns 244 = .ok (.getfield 22, 3) := by decide +kernel
theorem dX5_turns_247 : decode cX5_turns 247 = .ok (.iload_n 2, 1) := by decide +kernel
theorem dX5_turns_248 : decode cX5_turns 248 = .ok (.iaload, 1) := by decide +kernel
theorem dX5_turns_249 : decode cX5_turns 249 = .ok (.if_icmp .gt 23, 3) := by decide +kernel
theorem dX5_turns_252 : decode cX5_turns 252 = .ok (.aload_n 0, 1) := by decide +kernel
theorem dX5_turns_253 : decode cX5_turns 253 = .ok (.getfield 25, 3) := by decide +kernel
theorem dX5_turns_256 : decode cX5_turns 256 = .ok (.iload_n 2, 1) := by decide +kernel
theorem dX5_turns_257 : decode cX5_turns 257 = .ok (.iaload, 1) := by decide +kernel
theorem dX5_turns_258 : decode cX5_turns 258 = .ok (.ifCond .le 18, 3) := by decide +kernel
theorem dX5_turns_261 : decode cX5_turns 261 = .ok (.iload 6, 2) := by decide +kernel
theorem dX5_turns_263 : decode cX5_turns 263 = .ok (.aload_n 0, 1) := by decide +kernel
theorem dX5_turns_264 : decode cX5_turns 264 = .ok (.getfield 25, 3) := by decide +kernel
theorem dX5_turns_267 : decode cX5_turns 267 = .ok (.iload_n 2, 1) := by decide +kernel
theorem dX5_turns_268 : decode cX5_turns 268 = .ok (.iaload, 1) := by decide +kernel
theorem dX5_turns_269 : decode cX5_turns 269 = .ok (.if_icmp .le 7, 3) := by decide +kernel
theorem dX5_turns_272 : decode cX5_turns 272 = .ok (.iconst 1, 1) := by decide +kernel
theorem dX5_turns_273 : decode cX5_turns 273 = .ok (.goto 4, 3) := by decide +kernel
theorem dX5_turns_276 : decode cX5_turns 276 = .ok (.iconst 0, 1) := by decide +kernel
theorem dX5_turns_277 : decode cX5_turns 277 = .ok (.istore 7, 2) := by decide +kernel
theorem dX5_turns_279 : decode cX5_turns 279 = .ok (.aload_n 0, 1) := by decide +kernel
theorem dX5_turns_280 : decode cX5_turns 280 = .ok (.getfield 53, 3) := by decide +kernel
theorem dX5_turns_283 : decode cX5_turns 283 = .ok (.iload 5, 2) := by decide +kernel
theorem dX5_turns_285 : decode cX5_turns 285 = .ok (.iaload, 1) := by decide +kernel
theorem dX5_turns_286 : decode cX5_turns 286 = .ok (.iload_n 1, 1) := by decide +kernel
theorem dX5_turns_287 : decode cX5_turns 287 = .ok (.if_icmp .ne 43, 3) := by decide +kernel
theorem dX5_turns_290 : decode cX5_turns 290 = .ok (.aload_n 0, 1) := by decide +kernel
theorem dX5_turns_291 : decode cX5_turns 291 = .ok (.iload 5, 2) := by decide +kernel
theorem dX5_turns_293 : decode cX5_turns 293 = .ok (.invokevirtual 103, 3) := by decide +kernel
theorem dX5_turns_296 : decode cX5_turns 296 = .ok (.ifCond .ne 34, 3) := by decide +kernel
theorem dX5_turns_299 : decode cX5_turns 299 = .ok (.iload 6, 2) := by decide +kernel
theorem dX5_turns_301 : decode cX5_turns 301 = .ok (.aload_n 0, 1) := by decide +kernel
theorem dX5_turns_302 : decode cX5_turns 302 = .ok (.getfield 19, 3) := by decide +kernel
theorem dX5_turns_305 : decode cX5_turns 305 = .ok (.iload_n 2, 1) := by decide +kernel
theorem dX5_turns_306 : decode cX5_turns 306 = .ok (.iaload, 1) := by decide +kernel
theorem dX5_turns_307 : decode cX5_turns 307 = .ok (.if_icmp .lt 23, 3) := by decide +kernel
theorem dX5_turns_310 : decode cX5_turns 310 = .ok (.iload 7, 2) := by decide +kernel
theorem dX5_turns_312 : decode cX5_turns 312 = .ok (.ifCond .eq 18, 3) := by decide +kernel
theorem dX5_turns_315 : decode cX5_turns 315 = .ok (.aload_n 0, 1) := by decide +kernel
theorem dX5_turns_316 : decode cX5_turns 316 = .ok (.iload 5, 2) := by decide +kernel
theorem dX5_turns_318 : decode cX5_turns 318 = .ok (.invokevirtual 110, 3) := by decide +kernel
theorem dX5_turns_321 : decode cX5_turns 321 = .ok (.iinc 4 (-1), 3) := by decide +kernel
theorem dX5_turns_324 : decode cX5_turns 324 = .ok (.iinc 3 1, 3) := by decide +kernel
theorem dX5_turns_327 : decode cX5_turns 327 = .ok (.goto 6, 3) := by decide +kernel
theorem dX5_turns_330 : decode cX5_turns 330 = .ok (.iinc 5 1, 3) := by decide +kernel
theorem dX5_turns_333 : decode cX5_turns 333 = .ok (.goto (-115), 3) := by decide +kernel
theorem dX5_turns_336 : decode cX5_turns 336 = .ok (.iload_n 3, 1) := by decide +kernel
theorem dX5_turns_337 : decode cX5_turns 337 = .ok (.ireturn, 1) := by decide +kernel
theorem dX5_run_0 : decode cX5_run 0 = .ok (.aload_n 0, 1) := by decide +kernel
theorem dX5_run_1 : decode cX5_run 1 = .ok (.iconst 0, 1) := by decide +kernel
theorem dX5_run_2 : decode cX5_run 2 = .ok (.putfield 71, 3) := by decide +kernel
theorem dX5_run_5 : decode cX5_run 5 = .ok (.iconst 0, 1) := by decide +kernel
theorem dX5_run_6 : decode cX5_run 6 = .ok (.istore_n 1, 1) := by decide +kernel
theorem dX5_run_7 : decode cX5_run 7 = .ok (.iconst 0, 1) := by decide +kernel
theorem dX5_run_8 : decode cX5_run 8 = .ok (.istore_n 2, 1) := by decide +kernel
theorem dX5_run_9 : decode cX5_run 9 = .ok (.iload_n 2, 1) := by decide +kernel
theorem dX5_run_10 : decode cX5_run 10 = .ok (.iconst 5, 1) := by decide +kernel
theorem dX5_run_11 : decode cX5_run 11 = .ok (.if_icmp .ge 33, 3) := by decide +kernel
theorem dX5_run_14 : decode cX5_run 14 = .ok (.aload_n 0, 1) := by decide +kernel
theorem dX5_run_15 : decode cX5_run 15 = .ok (.iload_n 2, 1) := by decide +kernel
theorem dX5_run_16 : decode cX5_run 16 = .ok (.aload_n 0, 1) := by decide +kernel
theorem dX5_run_17 : decode cX5_run 17 = .ok (.getfield 93, 3) := by decide +kernel
theorem dX5_run_20 : decode cX5_run 20 = .ok (.invokevirtual 114, 3) := by decide +kernel
theorem dX5_run_23 : decode cX5_run 23 = .ok (.ifCond .eq 15, 3) := by decide +kernel
theorem dX5_run_26 : decode cX5_run 26 = .ok (.iload_n 1, 1) := by decide +kernel
theorem dX5_run_27 : decode cX5_run 27 = .ok (.iconst 1, 1) := by decide +kernel
theorem dX5_run_28 : decode cX5_run 28 = .ok (.iload_n 2, 1) := by decide +kernel
theorem dX5_run_29 : decode cX5_run 29 = .ok (.ishl, 1) := by decide +kernel
theorem dX5_run_30 : decode cX5_run 30 = .ok (.ior, 1) := by decide +kernel
theorem dX5_run_31 : decode cX5_run 31 = .ok (.istore_n 1, 1) := by decide +kernel
theorem dX5_run_32 : decode cX5_run 32 = .ok (.aload_n 0, 1) := by decide +kernel
theorem dX5_run_33 : decode cX5_run 33 = .ok (.iload_n 2, 1) := by decide +kernel
theorem dX5_run_34 : decode cX5_run 34 = .ok (.invokevirtual 118, 3) := by decide +kernel
theorem dX5_run_37 : decode cX5_run 37 = .ok (.istore_n 3, 1) := by decide +kernel
theorem dX5_run_38 : decode cX5_run 38 = .ok (.iinc 2 1, 3) := by decide +kernel
theorem dX5_run_41 : decode cX5_run 41 = .ok (.goto (-32), 3) := by decide +kernel
theorem dX5_run_44 : decode cX5_run 44 = .ok (.iconst 0, 1) := by decide +kernel
theorem dX5_run_45 : decode cX5_run 45 = .ok (.istore_n 2, 1) := by decide +kernel
theorem dX5_run_46 : decode cX5_run 46 = .ok (.iload_n 2, 1) := by decide +kernel
theorem dX5_run_47 : decode cX5_run 47 = .ok (.iconst 3, 1) := by decide +kernel
theorem dX5_run_48 : decode cX5_run 48 = .ok (.if_icmp .ge 157, 3) := by decide +kernel
theorem dX5_run_51 : decode cX5_run 51 = .ok (.iconst 0, 1) := by decide +kernel
theorem dX5_run_52 : decode cX5_run 52 = .ok (.istore_n 3, 1) := by decide +kernel
theorem dX5_run_53 : decode cX5_run 53 = .ok (.iconst 0, 1) := by decide +kernel
theorem dX5_run_54 : decode cX5_run 54 = .ok (.istore 4, 2) := by decide +kernel
theorem dX5_run_56 : decode cX5_run 56 = .ok (.iload 4, 2) := by decide +kernel
theorem dX5_run_58 : decode cX5_run 58 = .ok (.iconst 5, 1) := by decide +kernel
theorem dX5_run_59 : decode cX5_run 59 = .ok (.if_icmp .ge 40, 3) := by decide +kernel
theorem dX5_run_62 : decode cX5_run 62 = .ok (.iload_n 3, 1) := by decide +kernel
theorem dX5_run_63 : decode cX5_run 63 = .ok (.ifCond .ne 24, 3) := by decide +kernel
theorem dX5_run_66 : decode cX5_run 66 = .ok (.aload_n 0, 1) := by decide +kernel
theorem dX5_run_67 : decode cX5_run 67 = .ok (.getfield 38, 3) := by decide +kernel
theorem dX5_run_70 : decode cX5_run 70 = .ok (.iload 4, 2) := by decide +kernel
theorem dX5_run_72 : decode cX5_run 72 = .ok (.iaload, 1) := by decide +kernel
theorem dX5_run_73 : decode cX5_run 73 = .ok (.iload_n 2, 1) := by decide +kernel
theorem dX5_run_74 : decode cX5_run 74 = .ok (.if_icmp .ne 17, 3) := by decide +kernel
theorem dX5_run_77 : decode cX5_run 77 = .ok (.iload_n 1, 1) := by decide +kernel
theorem dX5_run_78 : decode cX5_run 78 = .ok (.iload 4, 2) := by decide +kernel
theorem dX5_run_80 : decode cX5_run 80 = .ok (.ishr, 1) := by decide +kernel
theorem dX5_run_81 : decode cX5_run 81 = .ok (.iconst 1, 1) := by decide +kernel
theorem dX5_run_82 : decode cX5_run 82 = .ok (.iand, 1) := by decide +kernel
theorem dX5_run_83 : decode cX5_run 83 = .ok (.iconst 1, 1) := by decide +kernel
theorem dX5_run_84 : decode cX5_run 84 = .ok (.if_icmp .ne 7, 3) := by decide +kernel
theorem dX5_run_87 : decode cX5_run 87 = .ok (.iconst 1, 1) := by decide +kernel
theorem dX5_run_88 : decode cX5_run 88 = .ok (.goto 4, 3) := by decide +kernel
theorem dX5_run_91 : decode cX5_run 91 = .ok (.iconst 0, 1) := by decide +kernel
theorem dX5_run_92 : decode cX5_run 92 = .ok (.istore_n 3, 1) := by decide +kernel
theorem dX5_run_93 : decode cX5_run 93 = .ok (.iinc 4 1, 3) := by decide +kernel
theorem dX5_run_96 : decode cX5_run 96 = .ok (.goto (-40), 3) := by decide +kernel
theorem dX5_run_99 : decode cX5_run 99 = .ok (.iconst 0, 1) := by decide +kernel
theorem dX5_run_100 : decode cX5_run 100 = .ok (.istore 4, 2) := by decide +kernel
theorem dX5_run_102 : decode cX5_run 102 = .ok (.iload 4, 2) := by decide +kernel
theorem dX5_run_104 : decode cX5_run 104 = .ok (.iconst 4, 1) := by decide +kernel
theorem dX5_run_105 : decode cX5_run 105 = .ok (.if_icmp .ge 94, 3) := by decide +kernel
theorem dX5_run_108 : decode cX5_run 108 = .ok (.iload_n 3, 1) := by decide +kernel
theorem dX5_run_109 : decode cX5_run 109 = .ok (.ifCond .eq 58, 3) := by decide +kernel
theorem dX5_run_112 : decode cX5_run 112 = .ok (.aload_n 0, 1) := by decide +kernel
theorem dX5_run_113 : decode cX5_run 113 = .ok (.getfield 35, 3) := by decide +kernel
theorem dX5_run_116 : decode cX5_run 116 = .ok (.iload_n 2, 1) := by decide +kernel
theorem dX5_run_117 : decode cX5_run 117 = .ok (.baload, 1) := by decide +kernel
theorem dX5_run_118 : decode cX5_run 118 = .ok (.ifCond .eq 49, 3) := by decide +kernel
theorem dX5_run_121 : decode cX5_run 121 = .ok (.aload_n 0, 1) := by decide +kernel
theorem dX5_run_122 : decode cX5_run 122 = .ok (.getfield 65, 3) := by decide +kernel
theorem dX5_run_125 : decode cX5_run 125 = .ok (.iload 4, 2) := by decide +kernel
theorem dX5_run_127 : decode cX5_run 127 = .ok (.iaload, 1) := by decide +kernel
theorem dX5_run_128 : decode cX5_run 128 = .ok (.iconst (-1), 1) := by decide +kernel
theorem dX5_run_129 : decode cX5_run 129 = .ok (.if_icmp .eq 38, 3) := by decide +kernel
theorem dX5_run_132 : decode cX5_run 132 = .ok (.aload_n 0, 1) := by decide +kernel
theorem dX5_run_133 : decode cX5_run 133 = .ok (.getfield 38, 3) := by decide +kernel
theorem dX5_run_136 : decode cX5_run 136 = .ok (.aload_n 0, 1) := by decide +kernel
theorem dX5_run_137 : decode cX5_run 137 = .ok (.getfield 65, 3) := by decide +kernel
theorem dX5_run_140 : decode cX5_run 140 = .ok (.iload 4, 2) := by decide +kernel
theorem dX5_run_142 : decode cX5_run 142 = .ok (.iaload, 1) := by decide +kernel
theorem dX5_run_143 : decode cX5_run 143 = .ok (.iconst (-1), 1) := by decide +kernel
theorem dX5_run_144 : decode cX5_run 144 = .ok (.if_icmp .ne 7, 3) := by decide +kernel
theorem dX5_run_147 : decode cX5_run 147 = .ok (.iconst 0, 1) := by decide +kernel
theorem dX5_run_148 : decode cX5_run 148 = .ok (.goto 10, 3) := by decide +kernel
theorem dX5_run_151 : decode cX5_run 151 = .ok (.aload_n 0, 1) := by decide +kernel
theorem dX5_run_152 : decode cX5_run 152 = .ok (.getfield 65, 3) := by decide +kernel
theorem dX5_run_155 : decode cX5_run 155 = .ok (.iload 4, 2) := by decide +kernel
theorem dX5_run_157 : decode cX5_run 157 = .ok (.iaload, 1) := by decide +kernel
theorem dX5_run_158 : decode cX5_run 158 = .ok (.iaload, 1) := by decide +kernel
theorem dX5_run_159 : decode cX5_run 159 = .ok (.iload_n 2, 1) := by decide +kernel
theorem dX5_run_160 : decode cX5_run 160 = .ok (.if_icmp .ne 7, 3) := by decide +kernel
theorem dX5_run_163 : decode cX5_run 163 = .ok (.iconst 1, 1) := by decide +kernel
theorem dX5_run_164 : decode cX5_run 164 = .ok (.goto 4, 3) := by decide +kernel
theorem dX5_run_167 : decode cX5_run 167 = .ok (.iconst 0, 1) := by decide +kernel
theorem dX5_run_168 : decode cX5_run 168 = .ok (.istore 5, 2) := by decide +kernel
theorem dX5_run_170 : decode cX5_run 170 = .ok (.aload_n 0, 1) := by decide +kernel
theorem dX5_run_171 : decode cX5_run 171 = .ok (.getfield 68, 3) := by decide +kernel
theorem dX5_run_174 : decode cX5_run 174 = .ok (.iload 4, 2) := by decide +kernel
theorem dX5_run_176 : decode cX5_run 176 = .ok (.iload 5, 2) := by decide +kernel
theorem dX5_run_178 : decode cX5_run 178 = .ok (.ifCond .eq 7, 3) := by decide +kernel
theorem dX5_run_181 : decode cX5_run 181 = .ok (.iconst (-1), 1) := by decide +kernel
theorem dX5_run_182 : decode cX5_run 182 = .ok (.goto 10, 3) := by decide +kernel
theorem dX5_run_185 : decode cX5_run 185 = .ok (.aload_n 0, 1) := by decide +kernel
theorem dX5_run_186 : decode cX5_run 186 = .ok (.getfield 68, 3) := by decide +kernel
theorem dX5_run_189 : decode cX5_run 189 = .ok (.iload 4, 2) := by decide +kernel
theorem dX5_run_191 : decode cX5_run 191 = .ok (.iaload, 1) := by decide +kernel
theorem dX5_run_192 : decode cX5_run 192 = .ok (.iastore, 1) := by decide +kernel
theorem dX5_run_193 : decode cX5_run 193 = .ok (.iinc 4 1, 3) := by decide +kernel
theorem dX5_run_196 : decode cX5_run 196 = .ok (.goto (-94), 3) := by decide +kernel
theorem dX5_run_199 : decode cX5_run 199 = .ok (.iinc 2 1, 3) := by decide +kernel
theorem dX5_run_202 : decode cX5_run 202 = .ok (.goto (-156), 3) := by decide +kernel
theorem dX5_run_205 : decode cX5_run 205 = .ok (.iload_n 1, 1) := by decide +kernel
theorem dX5_run_206 : decode cX5_run 206 = .ok (.ireturn, 1) := by decide +kernel
theorem dX5_turn_0 : decode cX5_turn 0 = .ok (.aload_n 0, 1) := by decide +kernel
theorem dX5_turn_1 : decode cX5_turn 1 = .ok (.iload_n 1, 1) := by decide +kernel
theorem dX5_turn_2 : decode cX5_turn 2 = .ok (.invokestatic 87, 3) := by decide +kernel
theorem dX5_turn_5 : decode cX5_turn 5 = .ok (.iconst 1, 1) := by decide +kernel
theorem dX5_turn_6 : decode cX5_turn 6 = .ok (.iconst 1, 1) := by decide +kernel
theorem dX5_turn_7 : decode cX5_turn 7 = .ok (.invokevirtual 83, 3) := by decide +kernel
theorem dX5_turn_10 : decode cX5_turn 10 = .ok (.ifCond .eq 11, 3) := by decide +kernel
theorem dX5_turn_13 : decode cX5_turn 13 = .ok (.aload_n 0, 1) := by decide +kernel
theorem dX5_turn_14 : decode cX5_turn 14 = .ok (.iload_n 1, 1) := by decide +kernel
theorem dX5_turn_15 : decode cX5_turn 15 = .ok (.invokevirtual 118, 3) := by decide +kernel
theorem dX5_turn_18 : decode cX5_turn 18 = .ok (.goto 4, 3) := by decide +kernel
theorem dX5_turn_21 : decode cX5_turn 21 = .ok (.iconst 0, 1) := by decide +kernel
theorem dX5_turn_22 : decode cX5_turn 22 = .ok (.ireturn, 1) := by decide +kernel
theorem dX5_lose_0 : decode cX5_lose 0 = .ok (.aload_n 0, 1) := by decide +kernel
theorem dX5_lose_1 : decode cX5_lose 1 = .ok (.iload_n 1, 1) := by decide +kernel
theorem dX5_lose_2 : decode cX5_lose 2 = .ok (.invokestatic 87, 3) := by decide +kernel
theorem dX5_lose_5 : decode cX5_lose 5 = .ok (.iconst 1, 1) := by decide +kernel
theorem dX5_lose_6 : decode cX5_lose 6 = .ok (.iconst 1, 1) := by decide +kernel
theorem dX5_lose_7 : decode cX5_lose 7 = .ok (.invokevirtual 83, 3) := by decide +kernel
theorem dX5_lose_10 : decode cX5_lose 10 = .ok (.ifCond .ne 5, 3) := by decide +kernel
theorem dX5_lose_13 : decode cX5_lose 13 = .ok (.iconst 0, 1) := by decide +kernel
theorem dX5_lose_14 : decode cX5_lose 14 = .ok (.ireturn, 1) := by decide +kernel
theorem dX5_lose_15 : decode cX5_lose 15 = .ok (.aload_n 0, 1) := by decide +kernel
theorem dX5_lose_16 : decode cX5_lose 16 = .ok (.getfield 44, 3) := by decide +kernel
theorem dX5_lose_19 : decode cX5_lose 19 = .ok (.iload_n 1, 1) := by decide +kernel
theorem dX5_lose_20 : decode cX5_lose 20 = .ok (.iaload, 1) := by decide +kernel
theorem dX5_lose_21 : decode cX5_lose 21 = .ok (.istore_n 2, 1) := by decide +kernel
theorem dX5_lose_22 : decode cX5_lose 22 = .ok (.aload_n 0, 1) := by decide +kernel
theorem dX5_lose_23 : decode cX5_lose 23 = .ok (.getfield 44, 3) := by decide +kernel
theorem dX5_lose_26 : decode cX5_lose 26 = .ok (.iload_n 1, 1) := by decide +kernel
theorem dX5_lose_27 : decode cX5_lose 27 = .ok (.aload_n 0, 1) := by decide +kernel
theorem dX5_lose_28 : decode cX5_lose 28 = .ok (.getfield 93, 3) := by decide +kernel
theorem dX5_lose_31 : decode cX5_lose 31 = .ok (.iastore, 1) := by decide +kernel
theorem dX5_lose_32 : decode cX5_lose 32 = .ok (.aload_n 0, 1) := by decide +kernel
theorem dX5_lose_33 : decode cX5_lose 33 = .ok (.getfield 47, 3) := by decide +kernel
theorem dX5_lose_36 : decode cX5_lose 36 = .ok (.iload_n 1, 1) := by decide +kernel
theorem dX5_lose_37 : decode cX5_lose 37 = .ok (.iconst 1, 1) := by decide +kernel
theorem dX5_lose_38 : decode cX5_lose 38 = .ok (.bastore, 1) := by decide +kernel
theorem dX5_lose_39 : decode cX5_lose 39 = .ok (.iload_n 2, 1) := by decide +kernel
theorem dX5_lose_40 : decode cX5_lose 40 = .ok (.ireturn, 1) := by decide +kernel
theorem dX5_day_0 : decode cX5_day 0 = .ok (.aload_n 0, 1) := by decide +kernel
theorem dX5_day_1 : decode cX5_day 1 = .ok (.iconst 0, 1) := by decide +kernel
theorem dX5_day_2 : decode cX5_day 2 = .ok (.putfield 71, 3) := by decide +kernel
theorem dX5_day_5 : decode cX5_day 5 = .ok (.aload_n 0, 1) := by decide +kernel
theorem dX5_day_6 : decode cX5_day 6 = .ok (.getfield 93, 3) := by decide +kernel
theorem dX5_day_9 : decode cX5_day 9 = .ok (.ireturn, 1) := by decide +kernel
theorem dX5_isDue_0 : decode cX5_isDue 0 = .ok (.aload_n 0, 1) := by decide +kernel
theorem dX5_isDue_1 : decode cX5_isDue 1 = .ok (.iload_n 1, 1) := by decide +kernel
theorem dX5_isDue_2 : decode cX5_isDue 2 = .ok (.invokestatic 87, 3) := by decide +kernel
theorem dX5_isDue_5 : decode cX5_isDue 5 = .ok (.iconst 1, 1) := by decide +kernel
theorem dX5_isDue_6 : decode cX5_isDue 6 = .ok (.iconst 1, 1) := by decide +kernel
theorem dX5_isDue_7 : decode cX5_isDue 7 = .ok (.invokevirtual 83, 3) := by decide +kernel
theorem dX5_isDue_10 : decode cX5_isDue 10 = .ok (.ifCond .eq 19, 3) := by decide +kernel
theorem dX5_isDue_13 : decode cX5_isDue 13 = .ok (.aload_n 0, 1) := by decide +kernel
theorem dX5_isDue_14 : decode cX5_isDue 14 = .ok (.iload_n 1, 1) := by decide +kernel
theorem dX5_isDue_15 : decode cX5_isDue 15 = .ok (.aload_n 0, 1) := by decide +kernel
theorem dX5_isDue_16 : decode cX5_isDue 16 = .ok (.getfield 93, 3) := by decide +kernel
theorem dX5_isDue_19 : decode cX5_isDue 19 = .ok (.invokevirtual 114, 3) := by decide +kernel
theorem dX5_isDue_22 : decode cX5_isDue 22 = .ok (.ifCond .eq 7, 3) := by decide +kernel
theorem dX5_isDue_25 : decode cX5_isDue 25 = .ok (.iconst 1, 1) := by decide +kernel
theorem dX5_isDue_26 : decode cX5_isDue 26 = .ok (.goto 4, 3) := by decide +kernel
theorem dX5_isDue_29 : decode cX5_isDue 29 = .ok (.iconst 0, 1) := by decide +kernel
theorem dX5_isDue_30 : decode cX5_isDue 30 = .ok (.ireturn, 1) := by decide +kernel
theorem dX5_nextDue_0 : decode cX5_nextDue 0 = .ok (.aload_n 0, 1) := by decide +kernel
theorem dX5_nextDue_1 : decode cX5_nextDue 1 = .ok (.iload_n 1, 1) := by decide +kernel
theorem dX5_nextDue_2 : decode cX5_nextDue 2 = .ok (.invokestatic 87, 3) := by decide +kernel
theorem dX5_nextDue_5 : decode cX5_nextDue 5 = .ok (.iconst 1, 1) := by decide +kernel
theorem dX5_nextDue_6 : decode cX5_nextDue 6 = .ok (.iconst 1, 1) := by decide +kernel
theorem dX5_nextDue_7 : decode cX5_nextDue 7 = .ok (.invokevirtual 83, 3) := by decide +kernel
theorem dX5_nextDue_10 : decode cX5_nextDue 10 = .ok (.ifCond .ne 5, 3) := by decide +kernel
theorem dX5_nextDue_13 : decode cX5_nextDue 13 = .ok (.iconst 0, 1) := by decide +kernel
theorem dX5_nextDue_14 : decode cX5_nextDue 14 = .ok (.ireturn, 1) := by decide +kernel
theorem dX5_nextDue_15 : decode cX5_nextDue 15 = .ok (.aload_n 0, 1) := by decide +kernel
theorem dX5_nextDue_16 : decode cX5_nextDue 16 = .ok (.getfield 93, 3) := by decide +kernel
theorem dX5_nextDue_19 : decode cX5_nextDue 19 = .ok (.istore_n 2, 1) := by decide +kernel
theorem dX5_nextDue_20 : decode cX5_nextDue 20 = .ok (.iload_n 2, 1) := by decide +kernel
theorem dX5_nextDue_21 : decode cX5_nextDue 21 = .ok (.aload_n 0, 1) := by decide +kernel
theorem dX5_nextDue_22 : decode cX5_nextDue 22 = .ok (.getfield 93, 3) := by decide +kernel
theorem dX5_nextDue_25 : decode cX5_nextDue 25 = .ok (.sipush 200, 3) := by decide +kernel
theorem dX5_nextDue_28 : decode cX5_nextDue 28 = .ok (.iadd, 1) := by decide +kernel
theorem dX5_nextDue_29 : decode cX5_nextDue 29 = .ok (.if_icmp .gt 20, 3) := by decide +kernel
theorem dX5_nextDue_32 : decode cX5_nextDue 32 = .ok (.aload_n 0, 1) := by decide +kernel
theorem dX5_nextDue_33 : decode cX5_nextDue 33 = .ok (.iload_n 1, 1) := by decide +kernel
theorem dX5_nextDue_34 : decode cX5_nextDue 34 = .ok (.iload_n 2, 1) := by decide +kernel
theorem dX5_nextDue_35 : decode cX5_nextDue 35 = .ok (.invokevirtual 114, 3) := by decide +kernel
theorem dX5_nextDue_38 : decode cX5_nextDue 38 = .ok (.ifCond .eq 5, 3) := by decide +kernel
theorem dX5_nextDue_41 : decode cX5_nextDue 41 = .ok (.iload_n 2, 1) := by decide +kernel
theorem dX5_nextDue_42 : decode cX5_nextDue 42 = .ok (.ireturn, 1) := by decide +kernel
theorem dX5_nextDue_43 : decode cX5_nextDue 43 = .ok (.iinc 2 1, 3) := by decide +kernel
theorem dX5_nextDue_46 : decode cX5_nextDue 46 = .ok (.goto (-26), 3) := by decide +kernel
theorem dX5_nextDue_49 : decode cX5_nextDue 49 = .ok (.iconst (-1), 1) := by decide +kernel
theorem dX5_nextDue_50 : decode cX5_nextDue 50 = .ok (.ireturn, 1) := by decide +kernel
theorem dX5_live_0 : decode cX5_live 0 = .ok (.aload_n 0, 1) := by decide +kernel
theorem dX5_live_1 : decode cX5_live 1 = .ok (.iload_n 1, 1) := by decide +kernel
theorem dX5_live_2 : decode cX5_live 2 = .ok (.invokestatic 87, 3) := by decide +kernel
theorem dX5_live_5 : decode cX5_live 5 = .ok (.iconst 1, 1) := by decide +kernel
theorem dX5_live_6 : decode cX5_live 6 = .ok (.iconst 1, 1) := by decide +kernel
theorem dX5_live_7 : decode cX5_live 7 = .ok (.invokevirtual 83, 3) := by decide +kernel
theorem dX5_live_10 : decode cX5_live 10 = .ok (.ifCond .eq 12, 3) := by decide +kernel
theorem dX5_live_13 : decode cX5_live 13 = .ok (.aload_n 0, 1) := by decide +kernel
theorem dX5_live_14 : decode cX5_live 14 = .ok (.getfield 41, 3) := by decide +kernel
theorem dX5_live_17 : decode cX5_live 17 = .ok (.iload_n 1, 1) := by decide +kernel
theorem dX5_live_18 : decode cX5_live 18 = .ok (.iaload, 1) := by decide +kernel
theorem dX5_live_19 : decode cX5_live 19 = .ok (.goto 4, 3) := by decide +kernel
theorem dX5_live_22 : decode cX5_live 22 = .ok (.iconst 0, 1) := by decide +kernel
theorem dX5_live_23 : decode cX5_live 23 = .ok (.ireturn, 1) := by decide +kernel
theorem dX5_olds_0 : decode cX5_olds 0 = .ok (.aload_n 0, 1) := by decide +kernel
theorem dX5_olds_1 : decode cX5_olds 1 = .ok (.iload_n 1, 1) := by decide +kernel
theorem dX5_olds_2 : decode cX5_olds 2 = .ok (.invokestatic 87, 3) := by decide +kernel
theorem dX5_olds_5 : decode cX5_olds 5 = .ok (.iconst 1, 1) := by decide +kernel
theorem dX5_olds_6 : decode cX5_olds 6 = .ok (.iconst 1, 1) := by decide +kernel
theorem dX5_olds_7 : decode cX5_olds 7 = .ok (.invokevirtual 83, 3) := by decide +kernel
theorem dX5_olds_10 : decode cX5_olds 10 = .ok (.ifCond .eq 11, 3) := by decide +kernel
theorem dX5_olds_13 : decode cX5_olds 13 = .ok (.aload_n 0, 1) := by decide +kernel
theorem dX5_olds_14 : decode cX5_olds 14 = .ok (.iload_n 1, 1) := by decide +kernel
theorem dX5_olds_15 : decode cX5_olds 15 = .ok (.invokevirtual 106, 3) := by decide +kernel
theorem dX5_olds_18 : decode cX5_olds 18 = .ok (.goto 4, 3) := by decide +kernel
theorem dX5_olds_21 : decode cX5_olds 21 = .ok (.iconst 0, 1) := by decide +kernel
theorem dX5_olds_22 : decode cX5_olds 22 = .ok (.ireturn, 1) := by decide +kernel
theorem dX5_placeOf_0 : decode cX5_placeOf 0 = .ok (.iconst (-1), 1) := by decide +kernel
theorem dX5_placeOf_1 : decode cX5_placeOf 1 = .ok (.istore_n 3, 1) := by decide +kernel
theorem dX5_placeOf_2 : decode cX5_placeOf 2 = .ok (.iload_n 2, 1) := by decide +kernel
theorem dX5_placeOf_3 : decode cX5_placeOf 3 = .ok (.istore 4, 2) := by decide +kernel
theorem dX5_placeOf_5 : decode cX5_placeOf 5 = .ok (.iconst 0, 1) := by decide +kernel
theorem dX5_placeOf_6 : decode cX5_placeOf 6 = .ok (.istore 5, 2) := by decide +kernel
theorem dX5_placeOf_8 : decode cX5_placeOf 8 = .ok (.iload 5, 2) := by decide +kernel
theorem dX5_placeOf_10 : decode cX5_placeOf 10 = .ok (.aload_n 0, 1) := by decide +kernel
theorem dX5_placeOf_11 : decode cX5_placeOf 11 = .ok (.getfield 100, 3) := by decide +kernel
theorem dX5_placeOf_14 : decode cX5_placeOf 14 = .ok (.if_icmp .ge 35, 3) := by decide +kernel
theorem dX5_placeOf_17 : decode cX5_placeOf 17 = .ok (.aload_n 0, 1) := by decide +kernel
theorem dX5_placeOf_18 : decode cX5_placeOf 18 = .ok (.getfield 53, 3) := by decide +kernel
theorem dX5_placeOf_21 : decode cX5_placeOf 21 = .ok (.iload 5, 2) := by decide +kernel
theorem dX5_placeOf_23 : decode cX5_placeOf 23 = .ok (.iaload, 1) := by decide +kernel
theorem dX5_placeOf_24 : decode cX5_placeOf 24 = .ok (.iload_n 1, 1) := by decide +kernel
theorem dX5_placeOf_25 : decode cX5_placeOf 25 = .ok (.if_icmp .ne 18, 3) := by decide +kernel
theorem dX5_placeOf_28 : decode cX5_placeOf 28 = .ok (.iload 4, 2) := by decide +kernel
theorem dX5_placeOf_30 : decode cX5_placeOf 30 = .ok (.ifCond .ne 8, 3) := by decide +kernel
theorem dX5_placeOf_33 : decode cX5_placeOf 33 = .ok (.iload 5, 2) := by decide +kernel
theorem dX5_placeOf_35 : decode cX5_placeOf 35 = .ok (.goto 4, 3) := by decide +kernel
theorem dX5_placeOf_38 : decode cX5_placeOf 38 = .ok (.iload_n 3, 1) := by decide +kernel
theorem dX5_placeOf_39 : decode cX5_placeOf 39 = .ok (.istore_n 3, 1) := by decide +kernel
theorem dX5_placeOf_40 : decode cX5_placeOf 40 = .ok (.iinc 4 (-1), 3) := by decide +kernel
theorem dX5_placeOf_43 : decode cX5_placeOf 43 = .ok (.iinc 5 1, 3) := by decide +kernel
theorem dX5_placeOf_46 : decode cX5_placeOf 46 = .ok (.goto (-38), 3) := by decide +kernel
theorem dX5_placeOf_49 : decode cX5_placeOf 49 = .ok (.iload_n 3, 1) := by decide +kernel
theorem dX5_placeOf_50 : decode cX5_placeOf 50 = .ok (.ireturn, 1) := by decide +kernel
theorem dX5_lines_0 : decode cX5_lines 0 = .ok (.aload_n 0, 1) := by decide +kernel
theorem dX5_lines_1 : decode cX5_lines 1 = .ok (.iload_n 1, 1) := by decide +kernel
theorem dX5_lines_2 : decode cX5_lines 2 = .ok (.iload_n 2, 1) := by decide +kernel
theorem dX5_lines_3 : decode cX5_lines 3 = .ok (.invokevirtual 121, 3) := by decide +kernel
theorem dX5_lines_6 : decode cX5_lines 6 = .ok (.istore_n 3, 1) := by decide +kernel
theorem dX5_lines_7 : decode cX5_lines 7 = .ok (.aload_n 0, 1) := by decide +kernel
theorem dX5_lines_8 : decode cX5_lines 8 = .ok (.iload_n 3, 1) := by decide +kernel
theorem dX5_lines_9 : decode cX5_lines 9 = .ok (.iconst (-1), 1) := by decide +kernel
theorem dX5_lines_10 : decode cX5_lines 10 = .ok (.if_icmp .eq 7, 3) := by decide +kernel
theorem dX5_lines_13 : decode cX5_lines 13 = .ok (.iconst 1, 1) := by decide +kernel
theorem dX5_lines_14 : decode cX5_lines 14 = .ok (.goto 4, 3) := by decide +kernel
theorem dX5_lines_17 : decode cX5_lines 17 = .ok (.iconst 0, 1) := by decide +kernel
theorem dX5_lines_18 : decode cX5_lines 18 = .ok (.iconst 1, 1) := by decide +kernel
theorem dX5_lines_19 : decode cX5_lines 19 = .ok (.iconst 1, 1) := by decide +kernel
theorem dX5_lines_20 : decode cX5_lines 20 = .ok (.invokevirtual 83, 3) := by decide +kernel
theorem dX5_lines_23 : decode cX5_lines 23 = .ok (.ifCond .eq 12, 3) := by decide +kernel
theorem dX5_lines_26 : decode cX5_lines 26 = .ok (.aload_n 0, 1) := by decide +kernel
theorem dX5_lines_27 : decode cX5_lines 27 = .ok (.getfield 56, 3) := by decide +kernel
theorem dX5_lines_30 : decode cX5_lines 30 = .ok (.iload_n 3, 1) := by decide +kernel
theorem dX5_lines_31 : decode cX5_lines 31 = .ok (.iaload, 1) := by decide +kernel
theorem dX5_lines_32 : decode cX5_lines 32 = .ok (.goto 4, 3) := by decide +kernel
theorem dX5_lines_35 : decode cX5_lines 35 = .ok (.iconst 0, 1) := by decide +kernel
theorem dX5_lines_36 : decode cX5_lines 36 = .ok (.ireturn, 1) := by decide +kernel
theorem dX5_name_0 : decode cX5_name 0 = .ok (.aload_n 0, 1) := by decide +kernel
theorem dX5_name_1 : decode cX5_name 1 = .ok (.iload_n 1, 1) := by decide +kernel
theorem dX5_name_2 : decode cX5_name 2 = .ok (.iload_n 2, 1) := by decide +kernel
theorem dX5_name_3 : decode cX5_name 3 = .ok (.invokevirtual 121, 3) := by decide +kernel
theorem dX5_name_6 : decode cX5_name 6 = .ok (.istore_n 3, 1) := by decide +kernel
theorem dX5_name_7 : decode cX5_name 7 = .ok (.aload_n 0, 1) := by decide +kernel
theorem dX5_name_8 : decode cX5_name 8 = .ok (.iload_n 3, 1) := by decide +kernel
theorem dX5_name_9 : decode cX5_name 9 = .ok (.iconst (-1), 1) := by decide +kernel
theorem dX5_name_10 : decode cX5_name 10 = .ok (.if_icmp .eq 7, 3) := by decide +kernel
theorem dX5_name_13 : decode cX5_name 13 = .ok (.iconst 1, 1) := by decide +kernel
theorem dX5_name_14 : decode cX5_name 14 = .ok (.goto 4, 3) := by decide +kernel
theorem dX5_name_17 : decode cX5_name 17 = .ok (.iconst 0, 1) := by decide +kernel
theorem dX5_name_18 : decode cX5_name 18 = .ok (.iconst 1, 1) := by decide +kernel
theorem dX5_name_19 : decode cX5_name 19 = .ok (.iconst 1, 1) := by decide +kernel
theorem dX5_name_20 : decode cX5_name 20 = .ok (.invokevirtual 83, 3) := by decide +kernel
theorem dX5_name_23 : decode cX5_name 23 = .ok (.ifCond .ne 5, 3) := by decide +kernel
theorem dX5_name_26 : decode cX5_name 26 = .ok (.iconst 0, 1) := by decide +kernel
theorem dX5_name_27 : decode cX5_name 27 = .ok (.ireturn, 1) := by decide +kernel
theorem dX5_name_28 : decode cX5_name 28 = .ok (.aload_n 0, 1) := by decide +kernel
theorem dX5_name_29 : decode cX5_name 29 = .ok (.getfield 32, 3) := by decide +kernel
theorem dX5_name_32 : decode cX5_name 32 = .ok (.aload_n 0, 1) := by decide +kernel
theorem dX5_name_33 : decode cX5_name 33 = .ok (.getfield 38, 3) := by decide +kernel
theorem dX5_name_36 : decode cX5_name 36 = .ok (.iload_n 1, 1) := by decide +kernel
theorem dX5_name_37 : decode cX5_name 37 = .ok (.iaload, 1) := by decide +kernel
theorem dX5_name_38 : decode cX5_name 38 = .ok (.baload, 1) := by decide +kernel
theorem dX5_name_39 : decode cX5_name 39 = .ok (.ifCond .ne 11, 3) := by decide +kernel
theorem dX5_name_42 : decode cX5_name 42 = .ok (.aload_n 0, 1) := by decide +kernel
theorem dX5_name_43 : decode cX5_name 43 = .ok (.iload_n 1, 1) := by decide +kernel
theorem dX5_name_44 : decode cX5_name 44 = .ok (.invokevirtual 106, 3) := by decide +kernel
theorem dX5_name_47 : decode cX5_name 47 = .ok (.iload_n 2, 1) := by decide +kernel
theorem dX5_name_48 : decode cX5_name 48 = .ok (.isub, 1) := by decide +kernel
theorem dX5_name_49 : decode cX5_name 49 = .ok (.ireturn, 1) := by decide +kernel
theorem dX5_name_50 : decode cX5_name 50 = .ok (.iconst 0, 1) := by decide +kernel
theorem dX5_name_51 : decode cX5_name 51 = .ok (.istore 4, 2) := by decide +kernel
theorem dX5_name_53 : decode cX5_name 53 = .ok (.iconst 0, 1) := by decide +kernel
theorem dX5_name_54 : decode cX5_name 54 = .ok (.istore 5, 2) := by decide +kernel
theorem dX5_name_56 : decode cX5_name 56 = .ok (.iload 5, 2) := by decide +kernel
theorem dX5_name_58 : decode cX5_name 58 = .ok (.iload_n 3, 1) := by decide +kernel
theorem dX5_name_59 : decode cX5_name 59 = .ok (.if_icmp .ge 46, 3) := by decide +kernel
theorem dX5_name_62 : decode cX5_name 62 = .ok (.iload 4, 2) := by decide +kernel
theorem dX5_name_64 : decode cX5_name 64 = .ok (.aload_n 0, 1) := by decide +kernel
theorem dX5_name_65 : decode cX5_name 65 = .ok (.getfield 53, 3) := by decide +kernel
theorem dX5_name_68 : decode cX5_name 68 = .ok (.iload 5, 2) := by decide +kernel
theorem dX5_name_70 : decode cX5_name 70 = .ok (.iaload, 1) := by decide +kernel
theorem dX5_name_71 : decode cX5_name 71 = .ok (.iload_n 1, 1) := by decide +kernel
theorem dX5_name_72 : decode cX5_name 72 = .ok (.if_icmp .ne 23, 3) := by decide +kernel
theorem dX5_name_75 : decode cX5_name 75 = .ok (.aload_n 0, 1) := by decide +kernel
theorem dX5_name_76 : decode cX5_name 76 = .ok (.getfield 59, 3) := by decide +kernel
theorem dX5_name_79 : decode cX5_name 79 = .ok (.iload 5, 2) := by decide +kernel
theorem dX5_name_81 : decode cX5_name 81 = .ok (.iaload, 1) := by decide +kernel
theorem dX5_name_82 : decode cX5_name 82 = .ok (.aload_n 0, 1) := by decide +kernel
theorem dX5_name_83 : decode cX5_name 83 = .ok (.getfield 59, 3) := by decide +kernel
theorem dX5_name_86 : decode cX5_name 86 = .ok (.iload_n 3, 1) := by decide +kernel
theorem dX5_name_87 : decode cX5_name 87 = .ok (.iaload, 1) := by decide +kernel
theorem dX5_name_88 : decode cX5_name 88 = .ok (.if_icmp .ne 7, 3) := by decide +kernel
theorem dX5_name_91 : decode cX5_name 91 = .ok (.iconst 1, 1) := by decide +kernel
theorem dX5_name_92 : decode cX5_name 92 = .ok (.goto 4, 3) := by decide +kernel
theorem dX5_name_95 : decode cX5_name 95 = .ok (.iconst 0, 1) := by decide +kernel
theorem dX5_name_96 : decode cX5_name 96 = .ok (.iadd, 1) := by decide +kernel
theorem dX5_name_97 : decode cX5_name 97 = .ok (.istore 4, 2) := by decide +kernel
theorem dX5_name_99 : decode cX5_name 99 = .ok (.iinc 5 1, 3) := by decide +kernel
theorem dX5_name_102 : decode cX5_name 102 = .ok (.goto (-46), 3) := by decide +kernel
theorem dX5_name_105 : decode cX5_name 105 = .ok (.sipush 1000, 3) := by decide +kernel
theorem dX5_name_108 : decode cX5_name 108 = .ok (.aload_n 0, 1) := by decide +kernel
theorem dX5_name_109 : decode cX5_name 109 = .ok (.getfield 59, 3) := by decide +kernel
theorem dX5_name_112 : decode cX5_name 112 = .ok (.iload_n 3, 1) := by decide +kernel
theorem dX5_name_113 : decode cX5_name 113 = .ok (.iaload, 1) := by decide +kernel
theorem dX5_name_114 : decode cX5_name 114 = .ok (.imul, 1) := by decide +kernel
theorem dX5_name_115 : decode cX5_name 115 = .ok (.iload 4, 2) := by decide +kernel
theorem dX5_name_117 : decode cX5_name 117 = .ok (.iadd, 1) := by decide +kernel
theorem dX5_name_118 : decode cX5_name 118 = .ok (.ireturn, 1) := by decide +kernel
theorem dX5_isSqueezed_0 : decode cX5_isSqueezed 0 = .ok (.aload_n 0, 1) := by decide +kernel
theorem dX5_isSqueezed_1 : decode cX5_isSqueezed 1 = .ok (.iload_n 1, 1) := by decide +kernel
theorem dX5_isSqueezed_2 : decode cX5_isSqueezed 2 = .ok (.iload_n 2, 1) := by decide +kernel
theorem dX5_isSqueezed_3 : decode cX5_isSqueezed 3 = .ok (.invokevirtual 121, 3) := by decide +kernel
theorem dX5_isSqueezed_6 : decode cX5_isSqueezed 6 = .ok (.istore_n 3, 1) := by decide +kernel
theorem dX5_isSqueezed_7 : decode cX5_isSqueezed 7 = .ok (.aload_n 0, 1) := by decide +kernel
theorem dX5_isSqueezed_8 : decode cX5_isSqueezed 8 = .ok (.iload_n 3, 1) := by decide +kernel
theorem dX5_isSqueezed_9 : decode cX5_isSqueezed 9 = .ok (.iconst (-1), 1) := by decide +kernel
theorem dX5_isSqueezed_10 : decode cX5_isSqueezed 10 = .ok (.if_icmp .eq 7, 3) := by decide +kernel
theorem dX5_isSqueezed_13 : decode cX5_isSqueezed 13 = .ok (.iconst 1, 1) := by decide +kernel
theorem dX5_isSqueezed_14 : decode cX5_isSqueezed 14 = .ok (.goto 4, 3) := by decide +kernel
theorem dX5_isSqueezed_17 : decode cX5_isSqueezed 17 = .ok (.iconst 0, 1) := by decide +kernel
theorem dX5_isSqueezed_18 : decode cX5_isSqueezed 18 = .ok (.iconst 1, 1) := by decide +kernel
theorem dX5_isSqueezed_19 : decode cX5_isSqueezed 19 = .ok (.iconst 1, 1) := by decide +kernel
theorem dX5_isSqueezed_20 : decode cX5_isSqueezed 20 = .ok (.invokevirtual 83, 3) := by decide +kernel
theorem dX5_isSqueezed_23 : decode cX5_isSqueezed 23 = .ok (.ifCond .eq 16, 3) := by decide +kernel
theorem dX5_isSqueezed_26 : decode cX5_isSqueezed 26 = .ok (.aload_n 0, 1) := by decide +kernel
theorem dX5_isSqueezed_27 : decode cX5_isSqueezed 27 = .ok (.getfield 62, 3) := by decide +kernel
theorem dX5_isSqueezed_30 : decode cX5_isSqueezed 30 = .ok (.iload_n 3, 1) := by decide +kernel
theorem dX5_isSqueezed_31 : decode cX5_isSqueezed 31 = .ok (.baload, 1) := by decide +kernel
theorem dX5_isSqueezed_32 : decode cX5_isSqueezed 32 = .ok (.ifCond .eq 7, 3) := by decide +kernel
theorem dX5_isSqueezed_35 : decode cX5_isSqueezed 35 = .ok (.iconst 1, 1) := by decide +kernel
theorem dX5_isSqueezed_36 : decode cX5_isSqueezed 36 = .ok (.goto 4, 3) := by decide +kernel
theorem dX5_isSqueezed_39 : decode cX5_isSqueezed 39 = .ok (.iconst 0, 1) := by decide +kernel
theorem dX5_isSqueezed_40 : decode cX5_isSqueezed 40 = .ok (.ireturn, 1) := by decide +kernel
theorem dX5_thrown__0 : decode cX5_thrown_ 0 = .ok (.aload_n 0, 1) := by decide +kernel
theorem dX5_thrown__1 : decode cX5_thrown_ 1 = .ok (.iload_n 1, 1) := by decide +kernel
theorem dX5_thrown__2 : decode cX5_thrown_ 2 = .ok (.invokestatic 87, 3) := by decide +kernel
theorem dX5_thrown__5 : decode cX5_thrown_ 5 = .ok (.iconst 1, 1) := by decide +kernel
theorem dX5_thrown__6 : decode cX5_thrown_ 6 = .ok (.iconst 1, 1) := by decide +kernel
theorem dX5_thrown__7 : decode cX5_thrown_ 7 = .ok (.invokevirtual 83, 3) := by decide +kernel
theorem dX5_thrown__10 : decode cX5_thrown_ 10 = .ok (.ifCond .eq 12, 3) := by decide +kernel
theorem dX5_thrown__13 : decode cX5_thrown_ 13 = .ok (.aload_n 0, 1) := by decide +kernel
theorem dX5_thrown__14 : decode cX5_thrown_ 14 = .ok (.getfield 50, 3) := by decide +kernel
theorem dX5_thrown__17 : decode cX5_thrown_ 17 = .ok (.iload_n 1, 1) := by decide +kernel
theorem dX5_thrown__18 : decode cX5_thrown_ 18 = .ok (.iaload, 1) := by decide +kernel
theorem dX5_thrown__19 : decode cX5_thrown_ 19 = .ok (.goto 4, 3) := by decide +kernel
theorem dX5_thrown__22 : decode cX5_thrown_ 22 = .ok (.iconst 0, 1) := by decide +kernel
theorem dX5_thrown__23 : decode cX5_thrown_ 23 = .ok (.ireturn, 1) := by decide +kernel
theorem dX5_holds_0 : decode cX5_holds 0 = .ok (.aload_n 0, 1) := by decide +kernel
theorem dX5_holds_1 : decode cX5_holds 1 = .ok (.iload_n 1, 1) := by decide +kernel
theorem dX5_holds_2 : decode cX5_holds 2 = .ok (.invokestatic 90, 3) := by decide +kernel
theorem dX5_holds_5 : decode cX5_holds 5 = .ok (.iconst 1, 1) := by decide +kernel
theorem dX5_holds_6 : decode cX5_holds 6 = .ok (.iconst 1, 1) := by decide +kernel
theorem dX5_holds_7 : decode cX5_holds 7 = .ok (.invokevirtual 83, 3) := by decide +kernel
theorem dX5_holds_10 : decode cX5_holds 10 = .ok (.ifCond .eq 13, 3) := by decide +kernel
theorem dX5_holds_13 : decode cX5_holds 13 = .ok (.aload_n 0, 1) := by decide +kernel
theorem dX5_holds_14 : decode cX5_holds 14 = .ok (.getfield 65, 3) := by decide +kernel
theorem dX5_holds_17 : decode cX5_holds 17 = .ok (.iload_n 1, 1) := by decide +kernel
theorem dX5_holds_18 : decode cX5_holds 18 = .ok (.iaload, 1) := by decide +kernel
theorem dX5_holds_19 : decode cX5_holds 19 = .ok (.iconst (-1), 1) := by decide +kernel
theorem dX5_holds_20 : decode cX5_holds 20 = .ok (.if_icmp .ne 16, 3) := by decide +kernel
theorem dX5_holds_23 : decode cX5_holds 23 = .ok (.aload_n 0, 1) := by decide +kernel
theorem dX5_holds_24 : decode cX5_holds 24 = .ok (.getfield 71, 3) := by decide +kernel
theorem dX5_holds_27 : decode cX5_holds 27 = .ok (.ifCond .ne 7, 3) := by decide +kernel
theorem dX5_holds_30 : decode cX5_holds 30 = .ok (.iconst (-1), 1) := by decide +kernel
theorem dX5_holds_31 : decode cX5_holds 31 = .ok (.goto 4, 3) := by decide +kernel
theorem dX5_holds_34 : decode cX5_holds 34 = .ok (.iconst 0, 1) := by decide +kernel
theorem dX5_holds_35 : decode cX5_holds 35 = .ok (.ireturn, 1) := by decide +kernel
theorem dX5_holds_36 : decode cX5_holds 36 = .ok (.iconst 0, 1) := by decide +kernel
theorem dX5_holds_37 : decode cX5_holds 37 = .ok (.istore_n 2, 1) := by decide +kernel
theorem dX5_holds_38 : decode cX5_holds 38 = .ok (.iconst 0, 1) := by decide +kernel
theorem dX5_holds_39 : decode cX5_holds 39 = .ok (.istore_n 3, 1) := by decide +kernel
theorem dX5_holds_40 : decode cX5_holds 40 = .ok (.iload_n 3, 1) := by decide +kernel
theorem dX5_holds_41 : decode cX5_holds 41 = .ok (.aload_n 0, 1) := by decide +kernel
theorem dX5_holds_42 : decode cX5_holds 42 = .ok (.getfield 68, 3) := by decide +kernel
theorem dX5_holds_45 : decode cX5_holds 45 = .ok (.iload_n 1, 1) := by decide +kernel
theorem dX5_holds_46 : decode cX5_holds 46 = .ok (.iaload, 1) := by decide +kernel
theorem dX5_holds_47 : decode cX5_holds 47 = .ok (.if_icmp .ge 32, 3) := by decide +kernel
theorem dX5_holds_50 : decode cX5_holds 50 = .ok (.iload_n 2, 1) := by decide +kernel
theorem dX5_holds_51 : decode cX5_holds 51 = .ok (.aload_n 0, 1) := by decide +kernel
theorem dX5_holds_52 : decode cX5_holds 52 = .ok (.getfield 53, 3) := by decide +kernel
theorem dX5_holds_55 : decode cX5_holds 55 = .ok (.iload_n 3, 1) := by decide +kernel
theorem dX5_holds_56 : decode cX5_holds 56 = .ok (.iaload, 1) := by decide +kernel
theorem dX5_holds_57 : decode cX5_holds 57 = .ok (.aload_n 0, 1) := by decide +kernel
theorem dX5_holds_58 : decode cX5_holds 58 = .ok (.getfield 65, 3) := by decide +kernel
theorem dX5_holds_61 : decode cX5_holds 61 = .ok (.iload_n 1, 1) := by decide +kernel
theorem dX5_holds_62 : decode cX5_holds 62 = .ok (.iaload, 1) := by decide +kernel
theorem dX5_holds_63 : decode cX5_holds 63 = .ok (.if_icmp .ne 7, 3) := by decide +kernel
theorem dX5_holds_66 : decode cX5_holds 66 = .ok (.iconst 1, 1) := by decide +kernel
theorem dX5_holds_67 : decode cX5_holds 67 = .ok (.goto 4, 3) := by decide +kernel
theorem dX5_holds_70 : decode cX5_holds 70 = .ok (.iconst 0, 1) := by decide +kernel
theorem dX5_holds_71 : decode cX5_holds 71 = .ok (.iadd, 1) := by decide +kernel
theorem dX5_holds_72 : decode cX5_holds 72 = .ok (.istore_n 2, 1) := by decide +kernel
theorem dX5_holds_73 : decode cX5_holds 73 = .ok (.iinc 3 1, 3) := by decide +kernel
theorem dX5_holds_76 : decode cX5_holds 76 = .ok (.goto (-36), 3) := by decide +kernel
theorem dX5_holds_79 : decode cX5_holds 79 = .ok (.bipush 100, 2) := by decide +kernel
theorem dX5_holds_81 : decode cX5_holds 81 = .ok (.aload_n 0, 1) := by decide +kernel
theorem dX5_holds_82 : decode cX5_holds 82 = .ok (.getfield 65, 3) := by decide +kernel
theorem dX5_holds_85 : decode cX5_holds 85 = .ok (.iload_n 1, 1) := by decide +kernel
theorem dX5_holds_86 : decode cX5_holds 86 = .ok (.iaload, 1) := by decide +kernel
theorem dX5_holds_87 : decode cX5_holds 87 = .ok (.imul, 1) := by decide +kernel
theorem dX5_holds_88 : decode cX5_holds 88 = .ok (.aload_n 0, 1) := by decide +kernel
theorem dX5_holds_89 : decode cX5_holds 89 = .ok (.getfield 68, 3) := by decide +kernel
theorem dX5_holds_92 : decode cX5_holds 92 = .ok (.iload_n 1, 1) := by decide +kernel
theorem dX5_holds_93 : decode cX5_holds 93 = .ok (.iaload, 1) := by decide +kernel
theorem dX5_holds_94 : decode cX5_holds 94 = .ok (.iconst (-1), 1) := by decide +kernel
theorem dX5_holds_95 : decode cX5_holds 95 = .ok (.if_icmp .ne 7, 3) := by decide +kernel
theorem dX5_holds_98 : decode cX5_holds 98 = .ok (.iconst 0, 1) := by decide +kernel
theorem dX5_holds_99 : decode cX5_holds 99 = .ok (.goto 6, 3) := by decide +kernel
theorem dX5_holds_102 : decode cX5_holds 102 = .ok (.iconst 1, 1) := by decide +kernel
theorem dX5_holds_103 : decode cX5_holds 103 = .ok (.iload_n 2, 1) := by decide +kernel
theorem dX5_holds_104 : decode cX5_holds 104 = .ok (.iadd, 1) := by decide +kernel
theorem dX5_holds_105 : decode cX5_holds 105 = .ok (.iadd, 1) := by decide +kernel
theorem dX5_holds_106 : decode cX5_holds 106 = .ok (.ireturn, 1) := by decide +kernel

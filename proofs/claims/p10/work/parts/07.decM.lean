theorem d_Mod_init_0 : decode b_Mod_init 0 = .ok (.aload_n 0, 1) := by decide +kernel
theorem d_Mod_init_1 : decode b_Mod_init 1 = .ok (.invokespecial 1, 3) := by decide +kernel
theorem d_Mod_init_4 : decode b_Mod_init 4 = .ok (.aload_n 0, 1) := by decide +kernel
theorem d_Mod_init_5 : decode b_Mod_init 5 = .ok (.bipush 14, 2) := by decide +kernel
theorem d_Mod_init_7 : decode b_Mod_init 7 = .ok (.newarray .int, 2) := by decide +kernel
theorem d_Mod_init_9 : decode b_Mod_init 9 = .ok (.putfield 7, 3) := by decide +kernel
theorem d_Mod_init_12 : decode b_Mod_init 12 = .ok (.aload_n 0, 1) := by decide +kernel
theorem d_Mod_init_13 : decode b_Mod_init 13 = .ok (.bipush 64, 2) := by decide +kernel
theorem d_Mod_init_15 : decode b_Mod_init 15 = .ok (.newarray .int, 2) := by decide +kernel
theorem d_Mod_init_17 : decode b_Mod_init 17 = .ok (.putfield 13, 3) := by decide +kernel
theorem d_Mod_init_20 : decode b_Mod_init 20 = .ok (.aload_n 0, 1) := by decide +kernel
theorem d_Mod_init_21 : decode b_Mod_init 21 = .ok (.bipush 64, 2) := by decide +kernel
theorem d_Mod_init_23 : decode b_Mod_init 23 = .ok (.newarray .boolean, 2) := by decide +kernel
theorem d_Mod_init_25 : decode b_Mod_init 25 = .ok (.putfield 16, 3) := by decide +kernel
theorem d_Mod_init_28 : decode b_Mod_init 28 = .ok (.aload_n 0, 1) := by decide +kernel
theorem d_Mod_init_29 : decode b_Mod_init 29 = .ok (.bipush 8, 2) := by decide +kernel
theorem d_Mod_init_31 : decode b_Mod_init 31 = .ok (.newarray .int, 2) := by decide +kernel
theorem d_Mod_init_33 : decode b_Mod_init 33 = .ok (.putfield 20, 3) := by decide +kernel
theorem d_Mod_init_36 : decode b_Mod_init 36 = .ok (.aload_n 0, 1) := by decide +kernel
theorem d_Mod_init_37 : decode b_Mod_init 37 = .ok (.bipush 8, 2) := by decide +kernel
theorem d_Mod_init_39 : decode b_Mod_init 39 = .ok (.newarray .int, 2) := by decide +kernel
theorem d_Mod_init_41 : decode b_Mod_init 41 = .ok (.putfield 23, 3) := by decide +kernel
theorem d_Mod_init_44 : decode b_Mod_init 44 = .ok (.aload_n 0, 1) := by decide +kernel
theorem d_Mod_init_45 : decode b_Mod_init 45 = .ok (.bipush 16, 2) := by decide +kernel
theorem d_Mod_init_47 : decode b_Mod_init 47 = .ok (.newarray .boolean, 2) := by decide +kernel
theorem d_Mod_init_49 : decode b_Mod_init 49 = .ok (.putfield 26, 3) := by decide +kernel
theorem d_Mod_init_52 : decode b_Mod_init 52 = .ok (.aload_n 0, 1) := by decide +kernel
theorem d_Mod_init_53 : decode b_Mod_init 53 = .ok (.bipush 16, 2) := by decide +kernel
theorem d_Mod_init_55 : decode b_Mod_init 55 = .ok (.newarray .int, 2) := by decide +kernel
theorem d_Mod_init_57 : decode b_Mod_init 57 = .ok (.putfield 29, 3) := by decide +kernel
theorem d_Mod_init_60 : decode b_Mod_init 60 = .ok (.aload_n 0, 1) := by decide +kernel
theorem d_Mod_init_61 : decode b_Mod_init 61 = .ok (.bipush 16, 2) := by decide +kernel
theorem d_Mod_init_63 : decode b_Mod_init 63 = .ok (.newarray .int, 2) := by decide +kernel
theorem d_Mod_init_65 : decode b_Mod_init 65 = .ok (.putfield 32, 3) := by decide +kernel
theorem d_Mod_init_68 : decode b_Mod_init 68 = .ok (.aload_n 0, 1) := by decide +kernel
theorem d_Mod_init_69 : decode b_Mod_init 69 = .ok (.bipush 16, 2) := by decide +kernel
theorem d_Mod_init_71 : decode b_Mod_init 71 = .ok (.newarray .int, 2) := by decide +kernel
theorem d_Mod_init_73 : decode b_Mod_init 73 = .ok (.putfield 35, 3) := by decide +kernel
theorem d_Mod_init_76 : decode b_Mod_init 76 = .ok (.aload_n 0, 1) := by decide +kernel
theorem d_Mod_init_77 : decode b_Mod_init 77 = .ok (.bipush 16, 2) := by decide +kernel
theorem d_Mod_init_79 : decode b_Mod_init 79 = .ok (.newarray .int, 2) := by decide +kernel
theorem d_Mod_init_81 : decode b_Mod_init 81 = .ok (.putfield 38, 3) := by decide +kernel
theorem d_Mod_init_84 : decode b_Mod_init 84 = .ok (.aload_n 0, 1) := by decide +kernel
theorem d_Mod_init_85 : decode b_Mod_init 85 = .ok (.bipush 8, 2) := by decide +kernel
theorem d_Mod_init_87 : decode b_Mod_init 87 = .ok (.newarray .int, 2) := by decide +kernel
theorem d_Mod_init_89 : decode b_Mod_init 89 = .ok (.putfield 41, 3) := by decide +kernel
theorem d_Mod_init_92 : decode b_Mod_init 92 = .ok (.aload_n 0, 1) := by decide +kernel
theorem d_Mod_init_93 : decode b_Mod_init 93 = .ok (.bipush 8, 2) := by decide +kernel
theorem d_Mod_init_95 : decode b_Mod_init 95 = .ok (.newarray .int, 2) := by decide +kernel
theorem d_Mod_init_97 : decode b_Mod_init 97 = .ok (.putfield 44, 3) := by decide +kernel
theorem d_Mod_init_100 : decode b_Mod_init 100 = .ok (.aload_n 0, 1) := by decide +kernel
theorem d_Mod_init_101 : decode b_Mod_init 101 = .ok (.iconst 1, 1) := by decide +kernel
theorem d_Mod_init_102 : decode b_Mod_init 102 = .ok (.putfield 47, 3) := by decide +kernel
theorem d_Mod_init_105 : decode b_Mod_init 105 = .ok (.aload_n 0, 1) := by decide +kernel
theorem d_Mod_init_106 : decode b_Mod_init 106 = .ok (.bipush 32, 2) := by decide +kernel
theorem d_Mod_init_108 : decode b_Mod_init 108 = .ok (.newarray .int, 2) := by decide +kernel
theorem d_Mod_init_110 : decode b_Mod_init 110 = .ok (.putfield 51, 3) := by decide +kernel
theorem d_Mod_init_113 : decode b_Mod_init 113 = .ok (.aload_n 0, 1) := by decide +kernel
theorem d_Mod_init_114 : decode b_Mod_init 114 = .ok (.bipush 12, 2) := by decide +kernel
theorem d_Mod_init_116 : decode b_Mod_init 116 = .ok (.newarray .int, 2) := by decide +kernel
theorem d_Mod_init_118 : decode b_Mod_init 118 = .ok (.dup, 1) := by decide +kernel
theorem d_Mod_init_119 : decode b_Mod_init 119 = .ok (.iconst 0, 1) := by decide +kernel
theorem d_Mod_init_120 : decode b_Mod_init 120 = .ok (.iconst 1, 1) := by decide +kernel
theorem d_Mod_init_121 : decode b_Mod_init 121 = .ok (.iastore, 1) := by decide +kernel
theorem d_Mod_init_122 : decode b_Mod_init 122 = .ok (.dup, 1) := by decide +kernel
theorem d_Mod_init_123 : decode b_Mod_init 123 = .ok (.iconst 1, 1) := by decide +kernel
theorem d_Mod_init_124 : decode b_Mod_init 124 = .ok (.iconst 2, 1) := by decide +kernel
theorem d_Mod_init_125 : decode b_Mod_init 125 = .ok (.iastore, 1) := by decide +kernel
theorem d_Mod_init_126 : decode b_Mod_init 126 = .ok (.dup, 1) := by decide +kernel
theorem d_Mod_init_127 : decode b_Mod_init 127 = .ok (.iconst 2, 1) := by decide +kernel
theorem d_Mod_init_128 : decode b_Mod_init 128 = .ok (.iconst 3, 1) := by decide +kernel
theorem d_Mod_init_129 : decode b_Mod_init 129 = .ok (.iastore, 1) := by decide +kernel
theorem d_Mod_init_130 : decode b_Mod_init 130 = .ok (.dup, 1) := by decide +kernel
theorem d_Mod_init_131 : decode b_Mod_init 131 = .ok (.iconst 3, 1) := by decide +kernel
theorem d_Mod_init_132 : decode b_Mod_init 132 = .ok (.iconst 4, 1) := by decide +kernel
theorem d_Mod_init_133 : decode b_Mod_init 133 = .ok (.iastore, 1) := by decide +kernel
theorem d_Mod_init_134 : decode b_Mod_init 134 = .ok (.dup, 1) := by decide +kernel
theorem d_Mod_init_135 : decode b_Mod_init 135 = .ok (.iconst 4, 1) := by decide +kernel
theorem d_Mod_init_136 : decode b_Mod_init 136 = .ok (.iconst 5, 1) := by decide +kernel
theorem d_Mod_init_137 : decode b_Mod_init 137 = .ok (.iastore, 1) := by decide +kernel
theorem d_Mod_init_138 : decode b_Mod_init 138 = .ok (.dup, 1) := by decide +kernel
theorem d_Mod_init_139 : decode b_Mod_init 139 = .ok (.iconst 5, 1) := by decide +kernel
theorem d_Mod_init_140 : decode b_Mod_init 140 = .ok (.bipush 6, 2) := by decide +kernel
theorem d_Mod_init_142 : decode b_Mod_init 142 = .ok (.iastore, 1) := by decide +kernel
theorem d_Mod_init_143 : decode b_Mod_init 143 = .ok (.dup, 1) := by decide +kernel
theorem d_Mod_init_144 : decode b_Mod_init 144 = .ok (.bipush 6, 2) := by decide +kernel
theorem d_Mod_init_146 : decode b_Mod_init 146 = .ok (.bipush 8, 2) := by decide +kernel
theorem d_Mod_init_148 : decode b_Mod_init 148 = .ok (.iastore, 1) := by decide +kernel
theorem d_Mod_init_149 : decode b_Mod_init 149 = .ok (.dup, 1) := by decide +kernel
theorem d_Mod_init_150 : decode b_Mod_init 150 = .ok (.bipush 7, 2) := by decide +kernel
theorem d_Mod_init_152 : decode b_Mod_init 152 = .ok (.bipush 9, 2) := by decide +kernel
theorem d_Mod_init_154 : decode b_Mod_init 154 = .ok (.iastore, 1) := by decide +kernel
theorem d_Mod_init_155 : decode b_Mod_init 155 = .ok (.dup, 1) := by decide +kernel
theorem d_Mod_init_156 : decode b_Mod_init 156 = .ok (.bipush 8, 2) := by decide +kernel
theorem d_Mod_init_158 : decode b_Mod_init 158 = .ok (.bipush 10, 2) := by decide +kernel
theorem d_Mod_init_160 : decode b_Mod_init 160 = .ok (.iastore, 1) := by decide +kernel
theorem d_Mod_init_161 : decode b_Mod_init 161 = .ok (.dup, 1) := by decide +kernel
theorem d_Mod_init_162 : decode b_Mod_init 162 = .ok (.bipush 9, 2) := by decide +kernel
theorem d_Mod_init_164 : decode b_Mod_init 164 = .ok (.bipush 12, 2) := by decide +kernel
theorem d_Mod_init_166 : decode b_Mod_init 166 = .ok (.iastore, 1) := by decide +kernel
theorem d_Mod_init_167 : decode b_Mod_init 167 = .ok (.dup, 1) := by decide +kernel
theorem d_Mod_init_168 : decode b_Mod_init 168 = .ok (.bipush 10, 2) := by decide +kernel
theorem d_Mod_init_170 : decode b_Mod_init 170 = .ok (.bipush 15, 2) := by decide +kernel
theorem d_Mod_init_172 : decode b_Mod_init 172 = .ok (.iastore, 1) := by decide +kernel
theorem d_Mod_init_173 : decode b_Mod_init 173 = .ok (.dup, 1) := by decide +kernel
theorem d_Mod_init_174 : decode b_Mod_init 174 = .ok (.bipush 11, 2) := by decide +kernel
theorem d_Mod_init_176 : decode b_Mod_init 176 = .ok (.bipush 16, 2) := by decide +kernel
theorem d_Mod_init_178 : decode b_Mod_init 178 = .ok (.iastore, 1) := by decide +kernel
theorem d_Mod_init_179 : decode b_Mod_init 179 = .ok (.putfield 54, 3) := by decide +kernel
theorem d_Mod_init_182 : decode b_Mod_init 182 = .ok (.aload_n 0, 1) := by decide +kernel
theorem d_Mod_init_183 : decode b_Mod_init 183 = .ok (.bipush 12, 2) := by decide +kernel
theorem d_Mod_init_185 : decode b_Mod_init 185 = .ok (.newarray .int, 2) := by decide +kernel
theorem d_Mod_init_187 : decode b_Mod_init 187 = .ok (.putfield 57, 3) := by decide +kernel
theorem d_Mod_init_190 : decode b_Mod_init 190 = .ok (.aload_n 0, 1) := by decide +kernel
theorem d_Mod_init_191 : decode b_Mod_init 191 = .ok (.bipush 64, 2) := by decide +kernel
theorem d_Mod_init_193 : decode b_Mod_init 193 = .ok (.newarray .boolean, 2) := by decide +kernel
theorem d_Mod_init_195 : decode b_Mod_init 195 = .ok (.putfield 60, 3) := by decide +kernel
theorem d_Mod_init_198 : decode b_Mod_init 198 = .ok (.aload_n 0, 1) := by decide +kernel
theorem d_Mod_init_199 : decode b_Mod_init 199 = .ok (.bipush 64, 2) := by decide +kernel
theorem d_Mod_init_201 : decode b_Mod_init 201 = .ok (.newarray .int, 2) := by decide +kernel
theorem d_Mod_init_203 : decode b_Mod_init 203 = .ok (.putfield 63, 3) := by decide +kernel
theorem d_Mod_init_206 : decode b_Mod_init 206 = .ok (.aload_n 0, 1) := by decide +kernel
theorem d_Mod_init_207 : decode b_Mod_init 207 = .ok (.bipush 64, 2) := by decide +kernel
theorem d_Mod_init_209 : decode b_Mod_init 209 = .ok (.newarray .int, 2) := by decide +kernel
theorem d_Mod_init_211 : decode b_Mod_init 211 = .ok (.putfield 66, 3) := by decide +kernel
theorem d_Mod_init_214 : decode b_Mod_init 214 = .ok (.aload_n 0, 1) := by decide +kernel
theorem d_Mod_init_215 : decode b_Mod_init 215 = .ok (.bipush 64, 2) := by decide +kernel
theorem d_Mod_init_217 : decode b_Mod_init 217 = .ok (.newarray .int, 2) := by decide +kernel
theorem d_Mod_init_219 : decode b_Mod_init 219 = .ok (.putfield 69, 3) := by decide +kernel
theorem d_Mod_init_222 : decode b_Mod_init 222 = .ok (.aload_n 0, 1) := by decide +kernel
theorem d_Mod_init_223 : decode b_Mod_init 223 = .ok (.bipush 64, 2) := by decide +kernel
theorem d_Mod_init_225 : decode b_Mod_init 225 = .ok (.newarray .int, 2) := by decide +kernel
theorem d_Mod_init_227 : decode b_Mod_init 227 = .ok (.putfield 72, 3) := by decide +kernel
theorem d_Mod_init_230 : decode b_Mod_init 230 = .ok (.aload_n 0, 1) := by decide +kernel
theorem d_Mod_init_231 : decode b_Mod_init 231 = .ok (.iload_n 1, 1) := by decide +kernel
theorem d_Mod_init_232 : decode b_Mod_init 232 = .ok (.iconst 5, 1) := by decide +kernel
theorem d_Mod_init_233 : decode b_Mod_init 233 = .ok (.invokestatic 75, 3) := by decide +kernel
theorem d_Mod_init_236 : decode b_Mod_init 236 = .ok (.putfield 79, 3) := by decide +kernel
theorem d_Mod_init_239 : decode b_Mod_init 239 = .ok (.aload_n 0, 1) := by decide +kernel
theorem d_Mod_init_240 : decode b_Mod_init 240 = .ok (.iconst 1, 1) := by decide +kernel
theorem d_Mod_init_241 : decode b_Mod_init 241 = .ok (.iload_n 2, 1) := by decide +kernel
theorem d_Mod_init_242 : decode b_Mod_init 242 = .ok (.iconst 1, 1) := by decide +kernel
theorem d_Mod_init_243 : decode b_Mod_init 243 = .ok (.isub, 1) := by decide +kernel
theorem d_Mod_init_244 : decode b_Mod_init 244 = .ok (.iconst 4, 1) := by decide +kernel
theorem d_Mod_init_245 : decode b_Mod_init 245 = .ok (.invokestatic 75, 3) := by decide +kernel
theorem d_Mod_init_248 : decode b_Mod_init 248 = .ok (.iadd, 1) := by decide +kernel
theorem d_Mod_init_249 : decode b_Mod_init 249 = .ok (.putfield 82, 3) := by decide +kernel
theorem d_Mod_init_252 : decode b_Mod_init 252 = .ok (.aload_n 0, 1) := by decide +kernel
theorem d_Mod_init_253 : decode b_Mod_init 253 = .ok (.iconst 1, 1) := by decide +kernel
theorem d_Mod_init_254 : decode b_Mod_init 254 = .ok (.iload_n 3, 1) := by decide +kernel
theorem d_Mod_init_255 : decode b_Mod_init 255 = .ok (.iconst 1, 1) := by decide +kernel
theorem d_Mod_init_256 : decode b_Mod_init 256 = .ok (.isub, 1) := by decide +kernel
theorem d_Mod_init_257 : decode b_Mod_init 257 = .ok (.bipush 32, 2) := by decide +kernel
theorem d_Mod_init_259 : decode b_Mod_init 259 = .ok (.invokestatic 75, 3) := by decide +kernel
theorem d_Mod_init_262 : decode b_Mod_init 262 = .ok (.iadd, 1) := by decide +kernel
theorem d_Mod_init_263 : decode b_Mod_init 263 = .ok (.putfield 85, 3) := by decide +kernel
theorem d_Mod_init_266 : decode b_Mod_init 266 = .ok (.aload_n 0, 1) := by decide +kernel
theorem d_Mod_init_267 : decode b_Mod_init 267 = .ok (.iconst 1, 1) := by decide +kernel
theorem d_Mod_init_268 : decode b_Mod_init 268 = .ok (.iload 4, 2) := by decide +kernel
theorem d_Mod_init_270 : decode b_Mod_init 270 = .ok (.iconst 1, 1) := by decide +kernel
theorem d_Mod_init_271 : decode b_Mod_init 271 = .ok (.isub, 1) := by decide +kernel
theorem d_Mod_init_272 : decode b_Mod_init 272 = .ok (.bipush 64, 2) := by decide +kernel
theorem d_Mod_init_274 : decode b_Mod_init 274 = .ok (.invokestatic 75, 3) := by decide +kernel
theorem d_Mod_init_277 : decode b_Mod_init 277 = .ok (.iadd, 1) := by decide +kernel
theorem d_Mod_init_278 : decode b_Mod_init 278 = .ok (.putfield 88, 3) := by decide +kernel
theorem d_Mod_init_281 : decode b_Mod_init 281 = .ok (.return_, 1) := by decide +kernel
theorem d_Mod_access_0 : decode b_Mod_access 0 = .ok (.aload_n 0, 1) := by decide +kernel
theorem d_Mod_access_1 : decode b_Mod_access 1 = .ok (.iconst 0, 1) := by decide +kernel
theorem d_Mod_access_2 : decode b_Mod_access 2 = .ok (.putfield 91, 3) := by decide +kernel
theorem d_Mod_access_5 : decode b_Mod_access 5 = .ok (.aload_n 0, 1) := by decide +kernel
theorem d_Mod_access_6 : decode b_Mod_access 6 = .ok (.invokevirtual 150, 3) := by decide +kernel
theorem d_Mod_access_9 : decode b_Mod_access 9 = .ok (.pop, 1) := by decide +kernel
theorem d_Mod_access_10 : decode b_Mod_access 10 = .ok (.aload_n 0, 1) := by decide +kernel
theorem d_Mod_access_11 : decode b_Mod_access 11 = .ok (.getfield 7, 3) := by decide +kernel
theorem d_Mod_access_14 : decode b_Mod_access 14 = .ok (.iconst 0, 1) := by decide +kernel
theorem d_Mod_access_15 : decode b_Mod_access 15 = .ok (.dup2, 1) := by decide +kernel
theorem d_Mod_access_16 : decode b_Mod_access 16 = .ok (.iaload, 1) := by decide +kernel
theorem d_Mod_access_17 : decode b_Mod_access 17 = .ok (.iconst 1, 1) := by decide +kernel
theorem d_Mod_access_18 : decode b_Mod_access 18 = .ok (.iadd, 1) := by decide +kernel
theorem d_Mod_access_19 : decode b_Mod_access 19 = .ok (.iastore, 1) := by decide +kernel
theorem d_Mod_access_20 : decode b_Mod_access 20 = .ok (.iconst 0, 1) := by decide +kernel
theorem d_Mod_access_21 : decode b_Mod_access 21 = .ok (.istore_n 3, 1) := by decide +kernel
theorem d_Mod_access_22 : decode b_Mod_access 22 = .ok (.aload_n 0, 1) := by decide +kernel
theorem d_Mod_access_23 : decode b_Mod_access 23 = .ok (.iload_n 2, 1) := by decide +kernel
theorem d_Mod_access_24 : decode b_Mod_access 24 = .ok (.invokevirtual 114, 3) := by decide +kernel
theorem d_Mod_access_27 : decode b_Mod_access 27 = .ok (.istore 4, 2) := by decide +kernel
theorem d_Mod_access_29 : decode b_Mod_access 29 = .ok (.aload_n 0, 1) := by decide +kernel
theorem d_Mod_access_30 : decode b_Mod_access 30 = .ok (.iload_n 2, 1) := by decide +kernel
theorem d_Mod_access_31 : decode b_Mod_access 31 = .ok (.invokevirtual 118, 3) := by decide +kernel
theorem d_Mod_access_34 : decode b_Mod_access 34 = .ok (.istore 5, 2) := by decide +kernel
theorem d_Mod_access_36 : decode b_Mod_access 36 = .ok (.iload 4, 2) := by decide +kernel
theorem d_Mod_access_38 : decode b_Mod_access 38 = .ok (.ifCond .lt 44, 3) := by decide +kernel
theorem d_Mod_access_41 : decode b_Mod_access 41 = .ok (.iconst 1, 1) := by decide +kernel
theorem d_Mod_access_42 : decode b_Mod_access 42 = .ok (.istore_n 3, 1) := by decide +kernel
theorem d_Mod_access_43 : decode b_Mod_access 43 = .ok (.aload_n 0, 1) := by decide +kernel
theorem d_Mod_access_44 : decode b_Mod_access 44 = .ok (.iload 4, 2) := by decide +kernel
theorem d_Mod_access_46 : decode b_Mod_access 46 = .ok (.invokevirtual 100, 3) := by decide +kernel
theorem d_Mod_access_49 : decode b_Mod_access 49 = .ok (.aload_n 0, 1) := by decide +kernel
theorem d_Mod_access_50 : decode b_Mod_access 50 = .ok (.getfield 7, 3) := by decide +kernel
theorem d_Mod_access_53 : decode b_Mod_access 53 = .ok (.iconst 4, 1) := by decide +kernel
theorem d_Mod_access_54 : decode b_Mod_access 54 = .ok (.dup2, 1) := by decide +kernel
theorem d_Mod_access_55 : decode b_Mod_access 55 = .ok (.iaload, 1) := by decide +kernel
theorem d_Mod_access_56 : decode b_Mod_access 56 = .ok (.aload_n 0, 1) := by decide +kernel
theorem d_Mod_access_57 : decode b_Mod_access 57 = .ok (.getfield 16, 3) := by decide +kernel
theorem d_Mod_access_60 : decode b_Mod_access 60 = .ok (.iconst 0, 1) := by decide +kernel
theorem d_Mod_access_61 : decode b_Mod_access 61 = .ok (.baload, 1) := by decide +kernel
theorem d_Mod_access_62 : decode b_Mod_access 62 = .ok (.ifCond .eq 7, 3) := by decide +kernel
theorem d_Mod_access_65 : decode b_Mod_access 65 = .ok (.iconst 1, 1) := by decide +kernel
theorem d_Mod_access_66 : decode b_Mod_access 66 = .ok (.goto 4, 3) := by decide +kernel
theorem d_Mod_access_69 : decode b_Mod_access 69 = .ok (.iconst 0, 1) := by decide +kernel
theorem d_Mod_access_70 : decode b_Mod_access 70 = .ok (.iadd, 1) := by decide +kernel
theorem d_Mod_access_71 : decode b_Mod_access 71 = .ok (.iastore, 1) := by decide +kernel
theorem d_Mod_access_72 : decode b_Mod_access 72 = .ok (.aload_n 0, 1) := by decide +kernel
theorem d_Mod_access_73 : decode b_Mod_access 73 = .ok (.getfield 16, 3) := by decide +kernel
theorem d_Mod_access_76 : decode b_Mod_access 76 = .ok (.iconst 0, 1) := by decide +kernel
theorem d_Mod_access_77 : decode b_Mod_access 77 = .ok (.iconst 0, 1) := by decide +kernel
theorem d_Mod_access_78 : decode b_Mod_access 78 = .ok (.bastore, 1) := by decide +kernel
theorem d_Mod_access_79 : decode b_Mod_access 79 = .ok (.goto 31, 3) := by decide +kernel
theorem d_Mod_access_82 : decode b_Mod_access 82 = .ok (.iload 5, 2) := by decide +kernel
theorem d_Mod_access_84 : decode b_Mod_access 84 = .ok (.ifCond .lt 7, 3) := by decide +kernel
theorem d_Mod_access_87 : decode b_Mod_access 87 = .ok (.iconst 2, 1) := by decide +kernel
theorem d_Mod_access_88 : decode b_Mod_access 88 = .ok (.goto 4, 3) := by decide +kernel
theorem d_Mod_access_91 : decode b_Mod_access 91 = .ok (.iconst 0, 1) := by decide +kernel
theorem d_Mod_access_92 : decode b_Mod_access 92 = .ok (.istore_n 3, 1) := by decide +kernel
theorem d_Mod_access_93 : decode b_Mod_access 93 = .ok (.iload 5, 2) := by decide +kernel
theorem d_Mod_access_95 : decode b_Mod_access 95 = .ok (.ifCond .lt 9, 3) := by decide +kernel
theorem d_Mod_access_98 : decode b_Mod_access 98 = .ok (.aload_n 0, 1) := by decide +kernel
theorem d_Mod_access_99 : decode b_Mod_access 99 = .ok (.iload 5, 2) := by decide +kernel
theorem d_Mod_access_101 : decode b_Mod_access 101 = .ok (.invokevirtual 107, 3) := by decide +kernel
theorem d_Mod_access_104 : decode b_Mod_access 104 = .ok (.aload_n 0, 1) := by decide +kernel
theorem d_Mod_access_105 : decode b_Mod_access 105 = .ok (.iload_n 2, 1) := by decide +kernel
theorem d_Mod_access_106 : decode b_Mod_access 106 = .ok (.iconst 0, 1) := by decide +kernel
theorem d_Mod_access_107 : decode b_Mod_access 107 = .ok (.invokevirtual 110, 3) := by decide +kernel
theorem d_Mod_access_110 : decode b_Mod_access 110 = .ok (.aload_n 0, 1) := by decide +kernel
theorem d_Mod_access_111 : decode b_Mod_access 111 = .ok (.getfield 7, 3) := by decide +kernel
theorem d_Mod_access_114 : decode b_Mod_access 114 = .ok (.iload_n 3, 1) := by decide +kernel
theorem d_Mod_access_115 : decode b_Mod_access 115 = .ok (.iconst 1, 1) := by decide +kernel
theorem d_Mod_access_116 : decode b_Mod_access 116 = .ok (.if_icmp .ne 7, 3) := by decide +kernel
theorem d_Mod_access_119 : decode b_Mod_access 119 = .ok (.iconst 1, 1) := by decide +kernel
theorem d_Mod_access_120 : decode b_Mod_access 120 = .ok (.goto 13, 3) := by decide +kernel
theorem d_Mod_access_123 : decode b_Mod_access 123 = .ok (.iload_n 3, 1) := by decide +kernel
theorem d_Mod_access_124 : decode b_Mod_access 124 = .ok (.iconst 2, 1) := by decide +kernel
theorem d_Mod_access_125 : decode b_Mod_access 125 = .ok (.if_icmp .ne 7, 3) := by decide +kernel
theorem d_Mod_access_128 : decode b_Mod_access 128 = .ok (.iconst 2, 1) := by decide +kernel
theorem d_Mod_access_129 : decode b_Mod_access 129 = .ok (.goto 4, 3) := by decide +kernel
theorem d_Mod_access_132 : decode b_Mod_access 132 = .ok (.iconst 3, 1) := by decide +kernel
theorem d_Mod_access_133 : decode b_Mod_access 133 = .ok (.dup2, 1) := by decide +kernel
theorem d_Mod_access_134 : decode b_Mod_access 134 = .ok (.iaload, 1) := by decide +kernel
theorem d_Mod_access_135 : decode b_Mod_access 135 = .ok (.iconst 1, 1) := by decide +kernel
theorem d_Mod_access_136 : decode b_Mod_access 136 = .ok (.iadd, 1) := by decide +kernel
theorem d_Mod_access_137 : decode b_Mod_access 137 = .ok (.iastore, 1) := by decide +kernel
theorem d_Mod_access_138 : decode b_Mod_access 138 = .ok (.aload_n 0, 1) := by decide +kernel
theorem d_Mod_access_139 : decode b_Mod_access 139 = .ok (.getfield 79, 3) := by decide +kernel
theorem d_Mod_access_142 : decode b_Mod_access 142 = .ok (.ifCond .ne 12, 3) := by decide +kernel
theorem d_Mod_access_145 : decode b_Mod_access 145 = .ok (.aload_n 0, 1) := by decide +kernel
theorem d_Mod_access_146 : decode b_Mod_access 146 = .ok (.iload_n 2, 1) := by decide +kernel
theorem d_Mod_access_147 : decode b_Mod_access 147 = .ok (.iconst 1, 1) := by decide +kernel
theorem d_Mod_access_148 : decode b_Mod_access 148 = .ok (.invokevirtual 124, 3) := by decide +kernel
theorem d_Mod_access_151 : decode b_Mod_access 151 = .ok (.goto 57, 3) := by decide +kernel
theorem d_Mod_access_154 : decode b_Mod_access 154 = .ok (.aload_n 0, 1) := by decide +kernel
theorem d_Mod_access_155 : decode b_Mod_access 155 = .ok (.getfield 79, 3) := by decide +kernel
theorem d_Mod_access_158 : decode b_Mod_access 158 = .ok (.iconst 1, 1) := by decide +kernel
theorem d_Mod_access_159 : decode b_Mod_access 159 = .ok (.if_icmp .ne 12, 3) := by decide +kernel
theorem d_Mod_access_162 : decode b_Mod_access 162 = .ok (.aload_n 0, 1) := by decide +kernel
theorem d_Mod_access_163 : decode b_Mod_access 163 = .ok (.iload_n 1, 1) := by decide +kernel
theorem d_Mod_access_164 : decode b_Mod_access 164 = .ok (.iload_n 2, 1) := by decide +kernel
theorem d_Mod_access_165 : decode b_Mod_access 165 = .ok (.invokevirtual 154, 3) := by decide +kernel
theorem d_Mod_access_168 : decode b_Mod_access 168 = .ok (.goto 40, 3) := by decide +kernel
theorem d_Mod_access_171 : decode b_Mod_access 171 = .ok (.aload_n 0, 1) := by decide +kernel
theorem d_Mod_access_172 : decode b_Mod_access 172 = .ok (.getfield 79, 3) := by decide +kernel
theorem d_Mod_access_175 : decode b_Mod_access 175 = .ok (.iconst 2, 1) := by decide +kernel
theorem d_Mod_access_176 : decode b_Mod_access 176 = .ok (.if_icmp .ne 11, 3) := by decide +kernel
theorem d_Mod_access_179 : decode b_Mod_access 179 = .ok (.aload_n 0, 1) := by decide +kernel
theorem d_Mod_access_180 : decode b_Mod_access 180 = .ok (.iload_n 2, 1) := by decide +kernel
theorem d_Mod_access_181 : decode b_Mod_access 181 = .ok (.invokevirtual 157, 3) := by decide +kernel
theorem d_Mod_access_184 : decode b_Mod_access 184 = .ok (.goto 24, 3) := by decide +kernel
theorem d_Mod_access_187 : decode b_Mod_access 187 = .ok (.aload_n 0, 1) := by decide +kernel
theorem d_Mod_access_188 : decode b_Mod_access 188 = .ok (.getfield 79, 3) := by decide +kernel
theorem d_Mod_access_191 : decode b_Mod_access 191 = .ok (.iconst 3, 1) := by decide +kernel
theorem d_Mod_access_192 : decode b_Mod_access 192 = .ok (.if_icmp .ne 11, 3) := by decide +kernel
theorem d_Mod_access_195 : decode b_Mod_access 195 = .ok (.aload_n 0, 1) := by decide +kernel
theorem d_Mod_access_196 : decode b_Mod_access 196 = .ok (.iload_n 2, 1) := by decide +kernel
theorem d_Mod_access_197 : decode b_Mod_access 197 = .ok (.invokevirtual 160, 3) := by decide +kernel
theorem d_Mod_access_200 : decode b_Mod_access 200 = .ok (.goto 8, 3) := by decide +kernel
theorem d_Mod_access_203 : decode b_Mod_access 203 = .ok (.aload_n 0, 1) := by decide +kernel
theorem d_Mod_access_204 : decode b_Mod_access 204 = .ok (.iload_n 2, 1) := by decide +kernel
theorem d_Mod_access_205 : decode b_Mod_access 205 = .ok (.invokevirtual 163, 3) := by decide +kernel
theorem d_Mod_access_208 : decode b_Mod_access 208 = .ok (.iload_n 3, 1) := by decide +kernel
theorem d_Mod_access_209 : decode b_Mod_access 209 = .ok (.ireturn, 1) := by decide +kernel
theorem d_Mod_arrive_0 : decode b_Mod_arrive 0 = .ok (.aload_n 0, 1) := by decide +kernel
theorem d_Mod_arrive_1 : decode b_Mod_arrive 1 = .ok (.dup, 1) := by decide +kernel
theorem d_Mod_arrive_2 : decode b_Mod_arrive 2 = .ok (.getfield 104, 3) := by decide +kernel
theorem d_Mod_arrive_5 : decode b_Mod_arrive 5 = .ok (.iconst 1, 1) := by decide +kernel
theorem d_Mod_arrive_6 : decode b_Mod_arrive 6 = .ok (.iadd, 1) := by decide +kernel
theorem d_Mod_arrive_7 : decode b_Mod_arrive 7 = .ok (.putfield 104, 3) := by decide +kernel
theorem d_Mod_arrive_10 : decode b_Mod_arrive 10 = .ok (.iconst 0, 1) := by decide +kernel
theorem d_Mod_arrive_11 : decode b_Mod_arrive 11 = .ok (.istore_n 1, 1) := by decide +kernel
theorem d_Mod_arrive_12 : decode b_Mod_arrive 12 = .ok (.iconst 0, 1) := by decide +kernel
theorem d_Mod_arrive_13 : decode b_Mod_arrive 13 = .ok (.istore_n 2, 1) := by decide +kernel
theorem d_Mod_arrive_14 : decode b_Mod_arrive 14 = .ok (.iload_n 2, 1) := by decide +kernel
theorem d_Mod_arrive_15 : decode b_Mod_arrive 15 = .ok (.aload_n 0, 1) := by decide +kernel
theorem d_Mod_arrive_16 : decode b_Mod_arrive 16 = .ok (.getfield 97, 3) := by decide +kernel
theorem d_Mod_arrive_19 : decode b_Mod_arrive 19 = .ok (.if_icmp .ge 46, 3) := by decide +kernel
theorem d_Mod_arrive_22 : decode b_Mod_arrive 22 = .ok (.aload_n 0, 1) := by decide +kernel
theorem d_Mod_arrive_23 : decode b_Mod_arrive 23 = .ok (.getfield 23, 3) := by decide +kernel
theorem d_Mod_arrive_26 : decode b_Mod_arrive 26 = .ok (.iload_n 2, 1) := by decide +kernel
theorem d_Mod_arrive_27 : decode b_Mod_arrive 27 = .ok (.iaload, 1) := by decide +kernel
theorem d_Mod_arrive_28 : decode b_Mod_arrive 28 = .ok (.aload_n 0, 1) := by decide +kernel
theorem d_Mod_arrive_29 : decode b_Mod_arrive 29 = .ok (.getfield 104, 3) := by decide +kernel
theorem d_Mod_arrive_32 : decode b_Mod_arrive 32 = .ok (.if_icmp .gt 27, 3) := by decide +kernel
theorem d_Mod_arrive_35 : decode b_Mod_arrive 35 = .ok (.aload_n 0, 1) := by decide +kernel
theorem d_Mod_arrive_36 : decode b_Mod_arrive 36 = .ok (.getfield 20, 3) := by decide +kernel
theorem d_Mod_arrive_39 : decode b_Mod_arrive 39 = .ok (.iload_n 2, 1) := by decide +kernel
theorem d_Mod_arrive_40 : decode b_Mod_arrive 40 = .ok (.iaload, 1) := by decide +kernel
theorem d_Mod_arrive_41 : decode b_Mod_arrive 41 = .ok (.istore_n 3, 1) := by decide +kernel
theorem d_Mod_arrive_42 : decode b_Mod_arrive 42 = .ok (.aload_n 0, 1) := by decide +kernel
theorem d_Mod_arrive_43 : decode b_Mod_arrive 43 = .ok (.iload_n 2, 1) := by decide +kernel
theorem d_Mod_arrive_44 : decode b_Mod_arrive 44 = .ok (.invokevirtual 107, 3) := by decide +kernel
theorem d_Mod_arrive_47 : decode b_Mod_arrive 47 = .ok (.aload_n 0, 1) := by decide +kernel
theorem d_Mod_arrive_48 : decode b_Mod_arrive 48 = .ok (.iload_n 3, 1) := by decide +kernel
theorem d_Mod_arrive_49 : decode b_Mod_arrive 49 = .ok (.iconst 1, 1) := by decide +kernel
theorem d_Mod_arrive_50 : decode b_Mod_arrive 50 = .ok (.invokevirtual 110, 3) := by decide +kernel
theorem d_Mod_arrive_53 : decode b_Mod_arrive 53 = .ok (.iinc 1 1, 3) := by decide +kernel
theorem d_Mod_arrive_56 : decode b_Mod_arrive 56 = .ok (.goto (-42), 3) := by decide +kernel
theorem d_Mod_arrive_59 : decode b_Mod_arrive 59 = .ok (.iinc 2 1, 3) := by decide +kernel
theorem d_Mod_arrive_62 : decode b_Mod_arrive 62 = .ok (.goto (-48), 3) := by decide +kernel
theorem d_Mod_arrive_65 : decode b_Mod_arrive 65 = .ok (.iload_n 1, 1) := by decide +kernel
theorem d_Mod_arrive_66 : decode b_Mod_arrive 66 = .ok (.ireturn, 1) := by decide +kernel
theorem d_Mod_come_0 : decode b_Mod_come 0 = .ok (.aload_n 0, 1) := by decide +kernel
theorem d_Mod_come_1 : decode b_Mod_come 1 = .ok (.getfield 94, 3) := by decide +kernel
theorem d_Mod_come_4 : decode b_Mod_come 4 = .ok (.aload_n 0, 1) := by decide +kernel
theorem d_Mod_come_5 : decode b_Mod_come 5 = .ok (.getfield 88, 3) := by decide +kernel
theorem d_Mod_come_8 : decode b_Mod_come 8 = .ok (.if_icmp .ne 39, 3) := by decide +kernel
theorem d_Mod_come_11 : decode b_Mod_come 11 = .ok (.aload_n 0, 1) := by decide +kernel
theorem d_Mod_come_12 : decode b_Mod_come 12 = .ok (.dup, 1) := by decide +kernel
theorem d_Mod_come_13 : decode b_Mod_come 13 = .ok (.getfield 94, 3) := by decide +kernel
theorem d_Mod_come_16 : decode b_Mod_come 16 = .ok (.iconst 1, 1) := by decide +kernel
theorem d_Mod_come_17 : decode b_Mod_come 17 = .ok (.isub, 1) := by decide +kernel
theorem d_Mod_come_18 : decode b_Mod_come 18 = .ok (.putfield 94, 3) := by decide +kernel
theorem d_Mod_come_21 : decode b_Mod_come 21 = .ok (.aload_n 0, 1) := by decide +kernel
theorem d_Mod_come_22 : decode b_Mod_come 22 = .ok (.getfield 7, 3) := by decide +kernel
theorem d_Mod_come_25 : decode b_Mod_come 25 = .ok (.iconst 5, 1) := by decide +kernel
theorem d_Mod_come_26 : decode b_Mod_come 26 = .ok (.dup2, 1) := by decide +kernel
theorem d_Mod_come_27 : decode b_Mod_come 27 = .ok (.iaload, 1) := by decide +kernel
theorem d_Mod_come_28 : decode b_Mod_come 28 = .ok (.aload_n 0, 1) := by decide +kernel
theorem d_Mod_come_29 : decode b_Mod_come 29 = .ok (.getfield 16, 3) := by decide +kernel
theorem d_Mod_come_32 : decode b_Mod_come 32 = .ok (.aload_n 0, 1) := by decide +kernel
theorem d_Mod_come_33 : decode b_Mod_come 33 = .ok (.getfield 94, 3) := by decide +kernel
theorem d_Mod_come_36 : decode b_Mod_come 36 = .ok (.baload, 1) := by decide +kernel
theorem d_Mod_come_37 : decode b_Mod_come 37 = .ok (.ifCond .eq 7, 3) := by decide +kernel
theorem d_Mod_come_40 : decode b_Mod_come 40 = .ok (.iconst 1, 1) := by decide +kernel
theorem d_Mod_come_41 : decode b_Mod_come 41 = .ok (.goto 4, 3) := by decide +kernel
theorem d_Mod_come_44 : decode b_Mod_come 44 = .ok (.iconst 0, 1) := by decide +kernel
theorem d_Mod_come_45 : decode b_Mod_come 45 = .ok (.iadd, 1) := by decide +kernel
theorem d_Mod_come_46 : decode b_Mod_come 46 = .ok (.iastore, 1) := by decide +kernel
theorem d_Mod_come_47 : decode b_Mod_come 47 = .ok (.aload_n 0, 1) := by decide +kernel
theorem d_Mod_come_48 : decode b_Mod_come 48 = .ok (.getfield 13, 3) := by decide +kernel
theorem d_Mod_come_51 : decode b_Mod_come 51 = .ok (.aload_n 0, 1) := by decide +kernel
theorem d_Mod_come_52 : decode b_Mod_come 52 = .ok (.getfield 94, 3) := by decide +kernel
theorem d_Mod_come_55 : decode b_Mod_come 55 = .ok (.iload_n 1, 1) := by decide +kernel
theorem d_Mod_come_56 : decode b_Mod_come 56 = .ok (.iastore, 1) := by decide +kernel
theorem d_Mod_come_57 : decode b_Mod_come 57 = .ok (.aload_n 0, 1) := by decide +kernel
theorem d_Mod_come_58 : decode b_Mod_come 58 = .ok (.getfield 16, 3) := by decide +kernel
theorem d_Mod_come_61 : decode b_Mod_come 61 = .ok (.aload_n 0, 1) := by decide +kernel
theorem d_Mod_come_62 : decode b_Mod_come 62 = .ok (.getfield 94, 3) := by decide +kernel
theorem d_Mod_come_65 : decode b_Mod_come 65 = .ok (.iload_n 2, 1) := by decide +kernel
theorem d_Mod_come_66 : decode b_Mod_come 66 = .ok (.bastore, 1) := by decide +kernel
theorem d_Mod_come_67 : decode b_Mod_come 67 = .ok (.aload_n 0, 1) := by decide +kernel
theorem d_Mod_come_68 : decode b_Mod_come 68 = .ok (.dup, 1) := by decide +kernel
theorem d_Mod_come_69 : decode b_Mod_come 69 = .ok (.getfield 94, 3) := by decide +kernel
theorem d_Mod_come_72 : decode b_Mod_come 72 = .ok (.iconst 1, 1) := by decide +kernel
theorem d_Mod_come_73 : decode b_Mod_come 73 = .ok (.iadd, 1) := by decide +kernel
theorem d_Mod_come_74 : decode b_Mod_come 74 = .ok (.putfield 94, 3) := by decide +kernel
theorem d_Mod_come_77 : decode b_Mod_come 77 = .ok (.aload_n 0, 1) := by decide +kernel
theorem d_Mod_come_78 : decode b_Mod_come 78 = .ok (.aload_n 0, 1) := by decide +kernel
theorem d_Mod_come_79 : decode b_Mod_come 79 = .ok (.getfield 94, 3) := by decide +kernel
theorem d_Mod_come_82 : decode b_Mod_come 82 = .ok (.iconst 1, 1) := by decide +kernel
theorem d_Mod_come_83 : decode b_Mod_come 83 = .ok (.isub, 1) := by decide +kernel
theorem d_Mod_come_84 : decode b_Mod_come 84 = .ok (.invokevirtual 100, 3) := by decide +kernel
theorem d_Mod_come_87 : decode b_Mod_come 87 = .ok (.return_, 1) := by decide +kernel
theorem d_Mod_count_0 : decode b_Mod_count 0 = .ok (.aload_n 0, 1) := by decide +kernel
theorem d_Mod_count_1 : decode b_Mod_count 1 = .ok (.iconst 0, 1) := by decide +kernel
theorem d_Mod_count_2 : decode b_Mod_count 2 = .ok (.putfield 91, 3) := by decide +kernel
theorem d_Mod_count_5 : decode b_Mod_count 5 = .ok (.iload_n 1, 1) := by decide +kernel
theorem d_Mod_count_6 : decode b_Mod_count 6 = .ok (.iconst 0, 1) := by decide +kernel
theorem d_Mod_count_7 : decode b_Mod_count 7 = .ok (.bipush 13, 2) := by decide +kernel
theorem d_Mod_count_9 : decode b_Mod_count 9 = .ok (.invokestatic 166, 3) := by decide +kernel
theorem d_Mod_count_12 : decode b_Mod_count 12 = .ok (.ifCond .ne 5, 3) := by decide +kernel
theorem d_Mod_count_15 : decode b_Mod_count 15 = .ok (.iconst (-1), 1) := by decide +kernel
theorem d_Mod_count_16 : decode b_Mod_count 16 = .ok (.ireturn, 1) := by decide +kernel
theorem d_Mod_count_17 : decode b_Mod_count 17 = .ok (.iload_n 1, 1) := by decide +kernel
theorem d_Mod_count_18 : decode b_Mod_count 18 = .ok (.bipush 9, 2) := by decide +kernel
theorem d_Mod_count_20 : decode b_Mod_count 20 = .ok (.if_icmp .ne 10, 3) := by decide +kernel
theorem d_Mod_count_23 : decode b_Mod_count 23 = .ok (.aload_n 0, 1) := by decide +kernel
theorem d_Mod_count_24 : decode b_Mod_count 24 = .ok (.getfield 104, 3) := by decide +kernel
theorem d_Mod_count_27 : decode b_Mod_count 27 = .ok (.goto 48, 3) := by decide +kernel
theorem d_Mod_count_30 : decode b_Mod_count 30 = .ok (.iload_n 1, 1) := by decide +kernel
theorem d_Mod_count_31 : decode b_Mod_count 31 = .ok (.bipush 10, 2) := by decide +kernel
theorem d_Mod_count_33 : decode b_Mod_count 33 = .ok (.if_icmp .ne 10, 3) := by decide +kernel
theorem d_Mod_count_36 : decode b_Mod_count 36 = .ok (.aload_n 0, 1) := by decide +kernel
theorem d_Mod_count_37 : decode b_Mod_count 37 = .ok (.getfield 94, 3) := by decide +kernel
theorem d_Mod_count_40 : decode b_Mod_count 40 = .ok (.goto 35, 3) := by decide +kernel
theorem d_Mod_count_43 : decode b_Mod_count 43 = .ok (.iload_n 1, 1) := by decide +kernel
theorem d_Mod_count_44 : decode b_Mod_count 44 = .ok (.bipush 11, 2) := by decide +kernel
theorem d_Mod_count_46 : decode b_Mod_count 46 = .ok (.if_icmp .ne 10, 3) := by decide +kernel
theorem d_Mod_count_49 : decode b_Mod_count 49 = .ok (.aload_n 0, 1) := by decide +kernel
theorem d_Mod_count_50 : decode b_Mod_count 50 = .ok (.getfield 97, 3) := by decide +kernel
theorem d_Mod_count_53 : decode b_Mod_count 53 = .ok (.goto 22, 3) := by decide +kernel
theorem d_Mod_count_56 : decode b_Mod_count 56 = .ok (.iload_n 1, 1) := by decide +kernel
theorem d_Mod_count_57 : decode b_Mod_count 57 = .ok (.bipush 12, 2) := by decide +kernel
theorem d_Mod_count_59 : decode b_Mod_count 59 = .ok (.if_icmp .ne 10, 3) := by decide +kernel
theorem d_Mod_count_62 : decode b_Mod_count 62 = .ok (.aload_n 0, 1) := by decide +kernel
theorem d_Mod_count_63 : decode b_Mod_count 63 = .ok (.invokevirtual 173, 3) := by decide +kernel
theorem d_Mod_count_66 : decode b_Mod_count 66 = .ok (.goto 9, 3) := by decide +kernel
theorem d_Mod_count_69 : decode b_Mod_count 69 = .ok (.aload_n 0, 1) := by decide +kernel
theorem d_Mod_count_70 : decode b_Mod_count 70 = .ok (.getfield 7, 3) := by decide +kernel
theorem d_Mod_count_73 : decode b_Mod_count 73 = .ok (.iload_n 1, 1) := by decide +kernel
theorem d_Mod_count_74 : decode b_Mod_count 74 = .ok (.iaload, 1) := by decide +kernel
theorem d_Mod_count_75 : decode b_Mod_count 75 = .ok (.ireturn, 1) := by decide +kernel
theorem d_Mod_endRound_0 : decode b_Mod_endRound 0 = .ok (.iconst 0, 1) := by decide +kernel
theorem d_Mod_endRound_1 : decode b_Mod_endRound 1 = .ok (.istore_n 1, 1) := by decide +kernel
theorem d_Mod_endRound_2 : decode b_Mod_endRound 2 = .ok (.iconst 1, 1) := by decide +kernel
theorem d_Mod_endRound_3 : decode b_Mod_endRound 3 = .ok (.istore_n 2, 1) := by decide +kernel
theorem d_Mod_endRound_4 : decode b_Mod_endRound 4 = .ok (.iload_n 2, 1) := by decide +kernel
theorem d_Mod_endRound_5 : decode b_Mod_endRound 5 = .ok (.bipush 12, 2) := by decide +kernel
theorem d_Mod_endRound_7 : decode b_Mod_endRound 7 = .ok (.if_icmp .ge 30, 3) := by decide +kernel
theorem d_Mod_endRound_10 : decode b_Mod_endRound 10 = .ok (.aload_n 0, 1) := by decide +kernel
theorem d_Mod_endRound_11 : decode b_Mod_endRound 11 = .ok (.getfield 57, 3) := by decide +kernel
theorem d_Mod_endRound_14 : decode b_Mod_endRound 14 = .ok (.iload_n 2, 1) := by decide +kernel
theorem d_Mod_endRound_15 : decode b_Mod_endRound 15 = .ok (.iaload, 1) := by decide +kernel
theorem d_Mod_endRound_16 : decode b_Mod_endRound 16 = .ok (.aload_n 0, 1) := by decide +kernel
theorem d_Mod_endRound_17 : decode b_Mod_endRound 17 = .ok (.getfield 57, 3) := by decide +kernel
theorem d_Mod_endRound_20 : decode b_Mod_endRound 20 = .ok (.iload_n 1, 1) := by decide +kernel
theorem d_Mod_endRound_21 : decode b_Mod_endRound 21 = .ok (.iaload, 1) := by decide +kernel
theorem d_Mod_endRound_22 : decode b_Mod_endRound 22 = .ok (.if_icmp .le 7, 3) := by decide +kernel
theorem d_Mod_endRound_25 : decode b_Mod_endRound 25 = .ok (.iload_n 2, 1) := by decide +kernel
theorem d_Mod_endRound_26 : decode b_Mod_endRound 26 = .ok (.goto 4, 3) := by decide +kernel
theorem d_Mod_endRound_29 : decode b_Mod_endRound 29 = .ok (.iload_n 1, 1) := by decide +kernel
theorem d_Mod_endRound_30 : decode b_Mod_endRound 30 = .ok (.istore_n 1, 1) := by decide +kernel
theorem d_Mod_endRound_31 : decode b_Mod_endRound 31 = .ok (.iinc 2 1, 3) := by decide +kernel
theorem d_Mod_endRound_34 : decode b_Mod_endRound 34 = .ok (.goto (-30), 3) := by decide +kernel
theorem d_Mod_endRound_37 : decode b_Mod_endRound 37 = .ok (.aload_n 0, 1) := by decide +kernel
theorem d_Mod_endRound_38 : decode b_Mod_endRound 38 = .ok (.aload_n 0, 1) := by decide +kernel
theorem d_Mod_endRound_39 : decode b_Mod_endRound 39 = .ok (.getfield 57, 3) := by decide +kernel
theorem d_Mod_endRound_42 : decode b_Mod_endRound 42 = .ok (.iload_n 1, 1) := by decide +kernel
theorem d_Mod_endRound_43 : decode b_Mod_endRound 43 = .ok (.iaload, 1) := by decide +kernel
theorem d_Mod_endRound_44 : decode b_Mod_endRound 44 = .ok (.iconst 4, 1) := by decide +kernel
theorem d_Mod_endRound_45 : decode b_Mod_endRound 45 = .ok (.if_icmp .ge 7, 3) := by decide +kernel
theorem d_Mod_endRound_48 : decode b_Mod_endRound 48 = .ok (.iconst 0, 1) := by decide +kernel
theorem d_Mod_endRound_49 : decode b_Mod_endRound 49 = .ok (.goto 9, 3) := by decide +kernel
theorem d_Mod_endRound_52 : decode b_Mod_endRound 52 = .ok (.aload_n 0, 1) := by decide +kernel
theorem d_Mod_endRound_53 : decode b_Mod_endRound 53 = .ok (.getfield 54, 3) := by decide +kernel
theorem d_Mod_endRound_56 : decode b_Mod_endRound 56 = .ok (.iload_n 1, 1) := by decide +kernel
theorem d_Mod_endRound_57 : decode b_Mod_endRound 57 = .ok (.iaload, 1) := by decide +kernel
theorem d_Mod_endRound_58 : decode b_Mod_endRound 58 = .ok (.putfield 47, 3) := by decide +kernel
theorem d_Mod_endRound_61 : decode b_Mod_endRound 61 = .ok (.iconst 0, 1) := by decide +kernel
theorem d_Mod_endRound_62 : decode b_Mod_endRound 62 = .ok (.istore_n 2, 1) := by decide +kernel
theorem d_Mod_endRound_63 : decode b_Mod_endRound 63 = .ok (.iload_n 2, 1) := by decide +kernel
theorem d_Mod_endRound_64 : decode b_Mod_endRound 64 = .ok (.bipush 12, 2) := by decide +kernel
theorem d_Mod_endRound_66 : decode b_Mod_endRound 66 = .ok (.if_icmp .ge 16, 3) := by decide +kernel
theorem d_Mod_endRound_69 : decode b_Mod_endRound 69 = .ok (.aload_n 0, 1) := by decide +kernel
theorem d_Mod_endRound_70 : decode b_Mod_endRound 70 = .ok (.getfield 57, 3) := by decide +kernel
theorem d_Mod_endRound_73 : decode b_Mod_endRound 73 = .ok (.iload_n 2, 1) := by decide +kernel
theorem d_Mod_endRound_74 : decode b_Mod_endRound 74 = .ok (.iconst 0, 1) := by decide +kernel
theorem d_Mod_endRound_75 : decode b_Mod_endRound 75 = .ok (.iastore, 1) := by decide +kernel
theorem d_Mod_endRound_76 : decode b_Mod_endRound 76 = .ok (.iinc 2 1, 3) := by decide +kernel
theorem d_Mod_endRound_79 : decode b_Mod_endRound 79 = .ok (.goto (-16), 3) := by decide +kernel
theorem d_Mod_endRound_82 : decode b_Mod_endRound 82 = .ok (.aload_n 0, 1) := by decide +kernel
theorem d_Mod_endRound_83 : decode b_Mod_endRound 83 = .ok (.iconst 0, 1) := by decide +kernel
theorem d_Mod_endRound_84 : decode b_Mod_endRound 84 = .ok (.putfield 134, 3) := by decide +kernel
theorem d_Mod_endRound_87 : decode b_Mod_endRound 87 = .ok (.aload_n 0, 1) := by decide +kernel
theorem d_Mod_endRound_88 : decode b_Mod_endRound 88 = .ok (.getfield 7, 3) := by decide +kernel
theorem d_Mod_endRound_91 : decode b_Mod_endRound 91 = .ok (.bipush 13, 2) := by decide +kernel
theorem d_Mod_endRound_93 : decode b_Mod_endRound 93 = .ok (.dup2, 1) := by decide +kernel
theorem d_Mod_endRound_94 : decode b_Mod_endRound 94 = .ok (.iaload, 1) := by decide +kernel
theorem d_Mod_endRound_95 : decode b_Mod_endRound 95 = .ok (.iconst 1, 1) := by decide +kernel
theorem d_Mod_endRound_96 : decode b_Mod_endRound 96 = .ok (.iadd, 1) := by decide +kernel
theorem d_Mod_endRound_97 : decode b_Mod_endRound 97 = .ok (.iastore, 1) := by decide +kernel
theorem d_Mod_endRound_98 : decode b_Mod_endRound 98 = .ok (.return_, 1) := by decide +kernel
theorem d_Mod_fail_0 : decode b_Mod_fail 0 = .ok (.aload_n 0, 1) := by decide +kernel
theorem d_Mod_fail_1 : decode b_Mod_fail 1 = .ok (.iload_n 1, 1) := by decide +kernel
theorem d_Mod_fail_2 : decode b_Mod_fail 2 = .ok (.putfield 91, 3) := by decide +kernel
theorem d_Mod_fail_5 : decode b_Mod_fail 5 = .ok (.iconst 0, 1) := by decide +kernel
theorem d_Mod_fail_6 : decode b_Mod_fail 6 = .ok (.ireturn, 1) := by decide +kernel
theorem d_Mod_finish_0 : decode b_Mod_finish 0 = .ok (.aload_n 0, 1) := by decide +kernel
theorem d_Mod_finish_1 : decode b_Mod_finish 1 = .ok (.iconst 0, 1) := by decide +kernel
theorem d_Mod_finish_2 : decode b_Mod_finish 2 = .ok (.putfield 91, 3) := by decide +kernel
theorem d_Mod_finish_5 : decode b_Mod_finish 5 = .ok (.aload_n 0, 1) := by decide +kernel
theorem d_Mod_finish_6 : decode b_Mod_finish 6 = .ok (.getfield 97, 3) := by decide +kernel
theorem d_Mod_finish_9 : decode b_Mod_finish 9 = .ok (.aload_n 0, 1) := by decide +kernel
theorem d_Mod_finish_10 : decode b_Mod_finish 10 = .ok (.invokevirtual 173, 3) := by decide +kernel
theorem d_Mod_finish_13 : decode b_Mod_finish 13 = .ok (.iadd, 1) := by decide +kernel
theorem d_Mod_finish_14 : decode b_Mod_finish 14 = .ok (.istore_n 1, 1) := by decide +kernel
theorem d_Mod_finish_15 : decode b_Mod_finish 15 = .ok (.aload_n 0, 1) := by decide +kernel
theorem d_Mod_finish_16 : decode b_Mod_finish 16 = .ok (.iconst 0, 1) := by decide +kernel
theorem d_Mod_finish_17 : decode b_Mod_finish 17 = .ok (.putfield 97, 3) := by decide +kernel
theorem d_Mod_finish_20 : decode b_Mod_finish 20 = .ok (.iconst 0, 1) := by decide +kernel
theorem d_Mod_finish_21 : decode b_Mod_finish 21 = .ok (.istore_n 2, 1) := by decide +kernel
theorem d_Mod_finish_22 : decode b_Mod_finish 22 = .ok (.iload_n 2, 1) := by decide +kernel
theorem d_Mod_finish_23 : decode b_Mod_finish 23 = .ok (.aload_n 0, 1) := by decide +kernel
theorem d_Mod_finish_24 : decode b_Mod_finish 24 = .ok (.getfield 94, 3) := by decide +kernel
theorem d_Mod_finish_27 : decode b_Mod_finish 27 = .ok (.if_icmp .ge 16, 3) := by decide +kernel
theorem d_Mod_finish_30 : decode b_Mod_finish 30 = .ok (.aload_n 0, 1) := by decide +kernel
theorem d_Mod_finish_31 : decode b_Mod_finish 31 = .ok (.getfield 16, 3) := by decide +kernel
theorem d_Mod_finish_34 : decode b_Mod_finish 34 = .ok (.iload_n 2, 1) := by decide +kernel
theorem d_Mod_finish_35 : decode b_Mod_finish 35 = .ok (.iconst 0, 1) := by decide +kernel
theorem d_Mod_finish_36 : decode b_Mod_finish 36 = .ok (.bastore, 1) := by decide +kernel
theorem d_Mod_finish_37 : decode b_Mod_finish 37 = .ok (.iinc 2 1, 3) := by decide +kernel
theorem d_Mod_finish_40 : decode b_Mod_finish 40 = .ok (.goto (-18), 3) := by decide +kernel
theorem d_Mod_finish_43 : decode b_Mod_finish 43 = .ok (.aload_n 0, 1) := by decide +kernel
theorem d_Mod_finish_44 : decode b_Mod_finish 44 = .ok (.getfield 7, 3) := by decide +kernel
theorem d_Mod_finish_47 : decode b_Mod_finish 47 = .ok (.iconst 5, 1) := by decide +kernel
theorem d_Mod_finish_48 : decode b_Mod_finish 48 = .ok (.dup2, 1) := by decide +kernel
theorem d_Mod_finish_49 : decode b_Mod_finish 49 = .ok (.iaload, 1) := by decide +kernel
theorem d_Mod_finish_50 : decode b_Mod_finish 50 = .ok (.iload_n 1, 1) := by decide +kernel
theorem d_Mod_finish_51 : decode b_Mod_finish 51 = .ok (.iadd, 1) := by decide +kernel
theorem d_Mod_finish_52 : decode b_Mod_finish 52 = .ok (.iastore, 1) := by decide +kernel
theorem d_Mod_finish_53 : decode b_Mod_finish 53 = .ok (.iload_n 1, 1) := by decide +kernel
theorem d_Mod_finish_54 : decode b_Mod_finish 54 = .ok (.ireturn, 1) := by decide +kernel
theorem d_Mod_follow_0 : decode b_Mod_follow 0 = .ok (.iconst 0, 1) := by decide +kernel
theorem d_Mod_follow_1 : decode b_Mod_follow 1 = .ok (.istore_n 2, 1) := by decide +kernel
theorem d_Mod_follow_2 : decode b_Mod_follow 2 = .ok (.iload_n 2, 1) := by decide +kernel
theorem d_Mod_follow_3 : decode b_Mod_follow 3 = .ok (.aload_n 0, 1) := by decide +kernel
theorem d_Mod_follow_4 : decode b_Mod_follow 4 = .ok (.getfield 128, 3) := by decide +kernel
theorem d_Mod_follow_7 : decode b_Mod_follow 7 = .ok (.if_icmp .ge 18, 3) := by decide +kernel
theorem d_Mod_follow_10 : decode b_Mod_follow 10 = .ok (.aload_n 0, 1) := by decide +kernel
theorem d_Mod_follow_11 : decode b_Mod_follow 11 = .ok (.iload_n 2, 1) := by decide +kernel
theorem d_Mod_follow_12 : decode b_Mod_follow 12 = .ok (.iload_n 1, 1) := by decide +kernel
theorem d_Mod_follow_13 : decode b_Mod_follow 13 = .ok (.invokevirtual 131, 3) := by decide +kernel
theorem d_Mod_follow_16 : decode b_Mod_follow 16 = .ok (.ifCond .ne 9, 3) := by decide +kernel
theorem d_Mod_follow_19 : decode b_Mod_follow 19 = .ok (.iinc 2 1, 3) := by decide +kernel
theorem d_Mod_follow_22 : decode b_Mod_follow 22 = .ok (.goto (-20), 3) := by decide +kernel
theorem d_Mod_follow_25 : decode b_Mod_follow 25 = .ok (.iload_n 2, 1) := by decide +kernel
theorem d_Mod_follow_26 : decode b_Mod_follow 26 = .ok (.aload_n 0, 1) := by decide +kernel
theorem d_Mod_follow_27 : decode b_Mod_follow 27 = .ok (.getfield 128, 3) := by decide +kernel
theorem d_Mod_follow_30 : decode b_Mod_follow 30 = .ok (.if_icmp .ge 12, 3) := by decide +kernel
theorem d_Mod_follow_33 : decode b_Mod_follow 33 = .ok (.aload_n 0, 1) := by decide +kernel
theorem d_Mod_follow_34 : decode b_Mod_follow 34 = .ok (.iload_n 2, 1) := by decide +kernel
theorem d_Mod_follow_35 : decode b_Mod_follow 35 = .ok (.iload_n 1, 1) := by decide +kernel
theorem d_Mod_follow_36 : decode b_Mod_follow 36 = .ok (.invokevirtual 131, 3) := by decide +kernel
theorem d_Mod_follow_39 : decode b_Mod_follow 39 = .ok (.goto 4, 3) := by decide +kernel
theorem d_Mod_follow_42 : decode b_Mod_follow 42 = .ok (.iconst 0, 1) := by decide +kernel
theorem d_Mod_follow_43 : decode b_Mod_follow 43 = .ok (.istore_n 3, 1) := by decide +kernel
theorem d_Mod_follow_44 : decode b_Mod_follow 44 = .ok (.iload_n 2, 1) := by decide +kernel
theorem d_Mod_follow_45 : decode b_Mod_follow 45 = .ok (.aload_n 0, 1) := by decide +kernel
theorem d_Mod_follow_46 : decode b_Mod_follow 46 = .ok (.getfield 128, 3) := by decide +kernel
theorem d_Mod_follow_49 : decode b_Mod_follow 49 = .ok (.if_icmp .ne 29, 3) := by decide +kernel
theorem d_Mod_follow_52 : decode b_Mod_follow 52 = .ok (.aload_n 0, 1) := by decide +kernel
theorem d_Mod_follow_53 : decode b_Mod_follow 53 = .ok (.getfield 128, 3) := by decide +kernel
theorem d_Mod_follow_56 : decode b_Mod_follow 56 = .ok (.bipush 8, 2) := by decide +kernel
theorem d_Mod_follow_58 : decode b_Mod_follow 58 = .ok (.if_icmp .ge 13, 3) := by decide +kernel
theorem d_Mod_follow_61 : decode b_Mod_follow 61 = .ok (.aload_n 0, 1) := by decide +kernel
theorem d_Mod_follow_62 : decode b_Mod_follow 62 = .ok (.dup, 1) := by decide +kernel
theorem d_Mod_follow_63 : decode b_Mod_follow 63 = .ok (.getfield 128, 3) := by decide +kernel
theorem d_Mod_follow_66 : decode b_Mod_follow 66 = .ok (.iconst 1, 1) := by decide +kernel
theorem d_Mod_follow_67 : decode b_Mod_follow 67 = .ok (.iadd, 1) := by decide +kernel
theorem d_Mod_follow_68 : decode b_Mod_follow 68 = .ok (.putfield 128, 3) := by decide +kernel
theorem d_Mod_follow_71 : decode b_Mod_follow 71 = .ok (.aload_n 0, 1) := by decide +kernel
theorem d_Mod_follow_72 : decode b_Mod_follow 72 = .ok (.getfield 128, 3) := by decide +kernel
theorem d_Mod_follow_75 : decode b_Mod_follow 75 = .ok (.iconst 1, 1) := by decide +kernel
theorem d_Mod_follow_76 : decode b_Mod_follow 76 = .ok (.isub, 1) := by decide +kernel
theorem d_Mod_follow_77 : decode b_Mod_follow 77 = .ok (.istore_n 2, 1) := by decide +kernel
theorem d_Mod_follow_78 : decode b_Mod_follow 78 = .ok (.iload_n 2, 1) := by decide +kernel
theorem d_Mod_follow_79 : decode b_Mod_follow 79 = .ok (.istore 4, 2) := by decide +kernel
theorem d_Mod_follow_81 : decode b_Mod_follow 81 = .ok (.iload 4, 2) := by decide +kernel
theorem d_Mod_follow_83 : decode b_Mod_follow 83 = .ok (.ifCond .le 41, 3) := by decide +kernel
theorem d_Mod_follow_86 : decode b_Mod_follow 86 = .ok (.aload_n 0, 1) := by decide +kernel
theorem d_Mod_follow_87 : decode b_Mod_follow 87 = .ok (.getfield 41, 3) := by decide +kernel
theorem d_Mod_follow_90 : decode b_Mod_follow 90 = .ok (.iload 4, 2) := by decide +kernel
theorem d_Mod_follow_92 : decode b_Mod_follow 92 = .ok (.aload_n 0, 1) := by decide +kernel
theorem d_Mod_follow_93 : decode b_Mod_follow 93 = .ok (.getfield 41, 3) := by decide +kernel
theorem d_Mod_follow_96 : decode b_Mod_follow 96 = .ok (.iload 4, 2) := by decide +kernel
theorem d_Mod_follow_98 : decode b_Mod_follow 98 = .ok (.iconst 1, 1) := by decide +kernel
theorem d_Mod_follow_99 : decode b_Mod_follow 99 = .ok (.isub, 1) := by decide +kernel
theorem d_Mod_follow_100 : decode b_Mod_follow 100 = .ok (.iaload, 1) := by decide +kernel
theorem d_Mod_follow_101 : decode b_Mod_follow 101 = .ok (.iastore, 1) := by decide +kernel
theorem d_Mod_follow_102 : decode b_Mod_follow 102 = .ok (.aload_n 0, 1) := by decide +kernel
theorem d_Mod_follow_103 : decode b_Mod_follow 103 = .ok (.getfield 44, 3) := by decide +kernel
theorem d_Mod_follow_106 : decode b_Mod_follow 106 = .ok (.iload 4, 2) := by decide +kernel
theorem d_Mod_follow_108 : decode b_Mod_follow 108 = .ok (.aload_n 0, 1) := by decide +kernel
theorem d_Mod_follow_109 : decode b_Mod_follow 109 = .ok (.getfield 44, 3) := by decide +kernel
theorem d_Mod_follow_112 : decode b_Mod_follow 112 = .ok (.iload 4, 2) := by decide +kernel
theorem d_Mod_follow_114 : decode b_Mod_follow 114 = .ok (.iconst 1, 1) := by decide +kernel
theorem d_Mod_follow_115 : decode b_Mod_follow 115 = .ok (.isub, 1) := by decide +kernel
theorem d_Mod_follow_116 : decode b_Mod_follow 116 = .ok (.iaload, 1) := by decide +kernel
theorem d_Mod_follow_117 : decode b_Mod_follow 117 = .ok (.iastore, 1) := by decide +kernel
theorem d_Mod_follow_118 : decode b_Mod_follow 118 = .ok (.iinc 4 (-1), 3) := by decide +kernel
theorem d_Mod_follow_121 : decode b_Mod_follow 121 = .ok (.goto (-40), 3) := by decide +kernel
theorem d_Mod_follow_124 : decode b_Mod_follow 124 = .ok (.aload_n 0, 1) := by decide +kernel
theorem d_Mod_follow_125 : decode b_Mod_follow 125 = .ok (.getfield 41, 3) := by decide +kernel
theorem d_Mod_follow_128 : decode b_Mod_follow 128 = .ok (.iconst 0, 1) := by decide +kernel
theorem d_Mod_follow_129 : decode b_Mod_follow 129 = .ok (.iload_n 1, 1) := by decide +kernel
theorem d_Mod_follow_130 : decode b_Mod_follow 130 = .ok (.iastore, 1) := by decide +kernel
theorem d_Mod_follow_131 : decode b_Mod_follow 131 = .ok (.aload_n 0, 1) := by decide +kernel
theorem d_Mod_follow_132 : decode b_Mod_follow 132 = .ok (.getfield 44, 3) := by decide +kernel
theorem d_Mod_follow_135 : decode b_Mod_follow 135 = .ok (.iconst 0, 1) := by decide +kernel
theorem d_Mod_follow_136 : decode b_Mod_follow 136 = .ok (.iload_n 3, 1) := by decide +kernel
theorem d_Mod_follow_137 : decode b_Mod_follow 137 = .ok (.iastore, 1) := by decide +kernel
theorem d_Mod_follow_138 : decode b_Mod_follow 138 = .ok (.iload_n 3, 1) := by decide +kernel
theorem d_Mod_follow_139 : decode b_Mod_follow 139 = .ok (.ifCond .eq 9, 3) := by decide +kernel
theorem d_Mod_follow_142 : decode b_Mod_follow 142 = .ok (.aload_n 0, 1) := by decide +kernel
theorem d_Mod_follow_143 : decode b_Mod_follow 143 = .ok (.iload_n 1, 1) := by decide +kernel
theorem d_Mod_follow_144 : decode b_Mod_follow 144 = .ok (.iload_n 3, 1) := by decide +kernel
theorem d_Mod_follow_145 : decode b_Mod_follow 145 = .ok (.invokevirtual 124, 3) := by decide +kernel
theorem d_Mod_follow_148 : decode b_Mod_follow 148 = .ok (.return_, 1) := by decide +kernel
theorem d_Mod_known_0 : decode b_Mod_known 0 = .ok (.aload_n 0, 1) := by decide +kernel
theorem d_Mod_known_1 : decode b_Mod_known 1 = .ok (.iconst 0, 1) := by decide +kernel
theorem d_Mod_known_2 : decode b_Mod_known 2 = .ok (.putfield 91, 3) := by decide +kernel
theorem d_Mod_known_5 : decode b_Mod_known 5 = .ok (.iload_n 1, 1) := by decide +kernel
theorem d_Mod_known_6 : decode b_Mod_known 6 = .ok (.bipush 15, 2) := by decide +kernel
theorem d_Mod_known_8 : decode b_Mod_known 8 = .ok (.iand, 1) := by decide +kernel
theorem d_Mod_known_9 : decode b_Mod_known 9 = .ok (.istore_n 2, 1) := by decide +kernel
theorem d_Mod_known_10 : decode b_Mod_known 10 = .ok (.iload_n 1, 1) := by decide +kernel
theorem d_Mod_known_11 : decode b_Mod_known 11 = .ok (.bipush 63, 2) := by decide +kernel
theorem d_Mod_known_13 : decode b_Mod_known 13 = .ok (.iand, 1) := by decide +kernel
theorem d_Mod_known_14 : decode b_Mod_known 14 = .ok (.istore_n 3, 1) := by decide +kernel
theorem d_Mod_known_15 : decode b_Mod_known 15 = .ok (.aload_n 0, 1) := by decide +kernel
theorem d_Mod_known_16 : decode b_Mod_known 16 = .ok (.getfield 79, 3) := by decide +kernel
theorem d_Mod_known_19 : decode b_Mod_known 19 = .ok (.iconst 1, 1) := by decide +kernel
theorem d_Mod_known_20 : decode b_Mod_known 20 = .ok (.if_icmp .ne 33, 3) := by decide +kernel
theorem d_Mod_known_23 : decode b_Mod_known 23 = .ok (.aload_n 0, 1) := by decide +kernel
theorem d_Mod_known_24 : decode b_Mod_known 24 = .ok (.getfield 26, 3) := by decide +kernel
theorem d_Mod_known_27 : decode b_Mod_known 27 = .ok (.iload_n 2, 1) := by decide +kernel
theorem d_Mod_known_28 : decode b_Mod_known 28 = .ok (.baload, 1) := by decide +kernel
theorem d_Mod_known_29 : decode b_Mod_known 29 = .ok (.ifCond .eq 22, 3) := by decide +kernel
theorem d_Mod_known_32 : decode b_Mod_known 32 = .ok (.aload_n 0, 1) := by decide +kernel
theorem d_Mod_known_33 : decode b_Mod_known 33 = .ok (.getfield 29, 3) := by decide +kernel
theorem d_Mod_known_36 : decode b_Mod_known 36 = .ok (.iload_n 2, 1) := by decide +kernel
theorem d_Mod_known_37 : decode b_Mod_known 37 = .ok (.iaload, 1) := by decide +kernel
theorem d_Mod_known_38 : decode b_Mod_known 38 = .ok (.iload_n 1, 1) := by decide +kernel
theorem d_Mod_known_39 : decode b_Mod_known 39 = .ok (.if_icmp .ne 12, 3) := by decide +kernel
theorem d_Mod_known_42 : decode b_Mod_known 42 = .ok (.aload_n 0, 1) := by decide +kernel
theorem d_Mod_known_43 : decode b_Mod_known 43 = .ok (.getfield 35, 3) := by decide +kernel
theorem d_Mod_known_46 : decode b_Mod_known 46 = .ok (.iload_n 2, 1) := by decide +kernel
theorem d_Mod_known_47 : decode b_Mod_known 47 = .ok (.iaload, 1) := by decide +kernel
theorem d_Mod_known_48 : decode b_Mod_known 48 = .ok (.goto 4, 3) := by decide +kernel
theorem d_Mod_known_51 : decode b_Mod_known 51 = .ok (.iconst 0, 1) := by decide +kernel
theorem d_Mod_known_52 : decode b_Mod_known 52 = .ok (.ireturn, 1) := by decide +kernel
theorem d_Mod_known_53 : decode b_Mod_known 53 = .ok (.aload_n 0, 1) := by decide +kernel
theorem d_Mod_known_54 : decode b_Mod_known 54 = .ok (.getfield 79, 3) := by decide +kernel
theorem d_Mod_known_57 : decode b_Mod_known 57 = .ok (.iconst 2, 1) := by decide +kernel
theorem d_Mod_known_58 : decode b_Mod_known 58 = .ok (.if_icmp .ne 8, 3) := by decide +kernel
theorem d_Mod_known_61 : decode b_Mod_known 61 = .ok (.aload_n 0, 1) := by decide +kernel
theorem d_Mod_known_62 : decode b_Mod_known 62 = .ok (.getfield 128, 3) := by decide +kernel
theorem d_Mod_known_65 : decode b_Mod_known 65 = .ok (.ireturn, 1) := by decide +kernel
theorem d_Mod_known_66 : decode b_Mod_known 66 = .ok (.aload_n 0, 1) := by decide +kernel
theorem d_Mod_known_67 : decode b_Mod_known 67 = .ok (.getfield 79, 3) := by decide +kernel
theorem d_Mod_known_70 : decode b_Mod_known 70 = .ok (.iconst 3, 1) := by decide +kernel
theorem d_Mod_known_71 : decode b_Mod_known 71 = .ok (.if_icmp .ne 8, 3) := by decide +kernel
theorem d_Mod_known_74 : decode b_Mod_known 74 = .ok (.aload_n 0, 1) := by decide +kernel
theorem d_Mod_known_75 : decode b_Mod_known 75 = .ok (.getfield 47, 3) := by decide +kernel
theorem d_Mod_known_78 : decode b_Mod_known 78 = .ok (.ireturn, 1) := by decide +kernel
theorem d_Mod_known_79 : decode b_Mod_known 79 = .ok (.aload_n 0, 1) := by decide +kernel
theorem d_Mod_known_80 : decode b_Mod_known 80 = .ok (.getfield 79, 3) := by decide +kernel
theorem d_Mod_known_83 : decode b_Mod_known 83 = .ok (.ifCond .ne 7, 3) := by decide +kernel
theorem d_Mod_known_86 : decode b_Mod_known 86 = .ok (.iconst 0, 1) := by decide +kernel
theorem d_Mod_known_87 : decode b_Mod_known 87 = .ok (.goto 41, 3) := by decide +kernel
theorem d_Mod_known_90 : decode b_Mod_known 90 = .ok (.aload_n 0, 1) := by decide +kernel
theorem d_Mod_known_91 : decode b_Mod_known 91 = .ok (.getfield 60, 3) := by decide +kernel
theorem d_Mod_known_94 : decode b_Mod_known 94 = .ok (.iload_n 3, 1) := by decide +kernel
theorem d_Mod_known_95 : decode b_Mod_known 95 = .ok (.baload, 1) := by decide +kernel
theorem d_Mod_known_96 : decode b_Mod_known 96 = .ok (.ifCond .eq 31, 3) := by decide +kernel
theorem d_Mod_known_99 : decode b_Mod_known 99 = .ok (.aload_n 0, 1) := by decide +kernel
theorem d_Mod_known_100 : decode b_Mod_known 100 = .ok (.getfield 63, 3) := by decide +kernel
theorem d_Mod_known_103 : decode b_Mod_known 103 = .ok (.iload_n 3, 1) := by decide +kernel
theorem d_Mod_known_104 : decode b_Mod_known 104 = .ok (.iaload, 1) := by decide +kernel
theorem d_Mod_known_105 : decode b_Mod_known 105 = .ok (.iload_n 1, 1) := by decide +kernel
theorem d_Mod_known_106 : decode b_Mod_known 106 = .ok (.if_icmp .ne 21, 3) := by decide +kernel
theorem d_Mod_known_109 : decode b_Mod_known 109 = .ok (.aload_n 0, 1) := by decide +kernel
theorem d_Mod_known_110 : decode b_Mod_known 110 = .ok (.getfield 66, 3) := by decide +kernel
theorem d_Mod_known_113 : decode b_Mod_known 113 = .ok (.iload_n 3, 1) := by decide +kernel
theorem d_Mod_known_114 : decode b_Mod_known 114 = .ok (.iaload, 1) := by decide +kernel
theorem d_Mod_known_115 : decode b_Mod_known 115 = .ok (.ifCond .le 12, 3) := by decide +kernel
theorem d_Mod_known_118 : decode b_Mod_known 118 = .ok (.aload_n 0, 1) := by decide +kernel
theorem d_Mod_known_119 : decode b_Mod_known 119 = .ok (.getfield 69, 3) := by decide +kernel
theorem d_Mod_known_122 : decode b_Mod_known 122 = .ok (.iload_n 3, 1) := by decide +kernel
theorem d_Mod_known_123 : decode b_Mod_known 123 = .ok (.iaload, 1) := by decide +kernel
theorem d_Mod_known_124 : decode b_Mod_known 124 = .ok (.goto 4, 3) := by decide +kernel
theorem d_Mod_known_127 : decode b_Mod_known 127 = .ok (.iconst (-1), 1) := by decide +kernel
theorem d_Mod_known_128 : decode b_Mod_known 128 = .ok (.ireturn, 1) := by decide +kernel
theorem d_Mod_marks_0 : decode b_Mod_marks 0 = .ok (.iconst 0, 1) := by decide +kernel
theorem d_Mod_marks_1 : decode b_Mod_marks 1 = .ok (.istore_n 1, 1) := by decide +kernel
theorem d_Mod_marks_2 : decode b_Mod_marks 2 = .ok (.iconst 0, 1) := by decide +kernel
theorem d_Mod_marks_3 : decode b_Mod_marks 3 = .ok (.istore_n 2, 1) := by decide +kernel
theorem d_Mod_marks_4 : decode b_Mod_marks 4 = .ok (.iload_n 2, 1) := by decide +kernel
theorem d_Mod_marks_5 : decode b_Mod_marks 5 = .ok (.aload_n 0, 1) := by decide +kernel
theorem d_Mod_marks_6 : decode b_Mod_marks 6 = .ok (.getfield 94, 3) := by decide +kernel
theorem d_Mod_marks_9 : decode b_Mod_marks 9 = .ok (.if_icmp .ge 26, 3) := by decide +kernel
theorem d_Mod_marks_12 : decode b_Mod_marks 12 = .ok (.iload_n 1, 1) := by decide +kernel
theorem d_Mod_marks_13 : decode b_Mod_marks 13 = .ok (.aload_n 0, 1) := by decide +kernel
theorem d_Mod_marks_14 : decode b_Mod_marks 14 = .ok (.getfield 16, 3) := by decide +kernel
theorem d_Mod_marks_17 : decode b_Mod_marks 17 = .ok (.iload_n 2, 1) := by decide +kernel
theorem d_Mod_marks_18 : decode b_Mod_marks 18 = .ok (.baload, 1) := by decide +kernel
theorem d_Mod_marks_19 : decode b_Mod_marks 19 = .ok (.ifCond .eq 7, 3) := by decide +kernel
theorem d_Mod_marks_22 : decode b_Mod_marks 22 = .ok (.iconst 1, 1) := by decide +kernel
theorem d_Mod_marks_23 : decode b_Mod_marks 23 = .ok (.goto 4, 3) := by decide +kernel
theorem d_Mod_marks_26 : decode b_Mod_marks 26 = .ok (.iconst 0, 1) := by decide +kernel
theorem d_Mod_marks_27 : decode b_Mod_marks 27 = .ok (.iadd, 1) := by decide +kernel
theorem d_Mod_marks_28 : decode b_Mod_marks 28 = .ok (.istore_n 1, 1) := by decide +kernel
theorem d_Mod_marks_29 : decode b_Mod_marks 29 = .ok (.iinc 2 1, 3) := by decide +kernel
theorem d_Mod_marks_32 : decode b_Mod_marks 32 = .ok (.goto (-28), 3) := by decide +kernel
theorem d_Mod_marks_35 : decode b_Mod_marks 35 = .ok (.iload_n 1, 1) := by decide +kernel
theorem d_Mod_marks_36 : decode b_Mod_marks 36 = .ok (.ireturn, 1) := by decide +kernel
theorem d_Mod_modulo_0 : decode b_Mod_modulo 0 = .ok (.iload_n 0, 1) := by decide +kernel
theorem d_Mod_modulo_1 : decode b_Mod_modulo 1 = .ok (.iload_n 1, 1) := by decide +kernel
theorem d_Mod_modulo_2 : decode b_Mod_modulo 2 = .ok (.irem, 1) := by decide +kernel
theorem d_Mod_modulo_3 : decode b_Mod_modulo 3 = .ok (.iload_n 1, 1) := by decide +kernel
theorem d_Mod_modulo_4 : decode b_Mod_modulo 4 = .ok (.iadd, 1) := by decide +kernel
theorem d_Mod_modulo_5 : decode b_Mod_modulo 5 = .ok (.iload_n 1, 1) := by decide +kernel
theorem d_Mod_modulo_6 : decode b_Mod_modulo 6 = .ok (.irem, 1) := by decide +kernel
theorem d_Mod_modulo_7 : decode b_Mod_modulo 7 = .ok (.ireturn, 1) := by decide +kernel
theorem d_Mod_offsets_0 : decode b_Mod_offsets 0 = .ok (.aload_n 0, 1) := by decide +kernel
theorem d_Mod_offsets_1 : decode b_Mod_offsets 1 = .ok (.getfield 134, 3) := by decide +kernel
theorem d_Mod_offsets_4 : decode b_Mod_offsets 4 = .ok (.bipush 12, 2) := by decide +kernel
theorem d_Mod_offsets_6 : decode b_Mod_offsets 6 = .ok (.irem, 1) := by decide +kernel
theorem d_Mod_offsets_7 : decode b_Mod_offsets 7 = .ok (.istore_n 2, 1) := by decide +kernel
theorem d_Mod_offsets_8 : decode b_Mod_offsets 8 = .ok (.iconst 0, 1) := by decide +kernel
theorem d_Mod_offsets_9 : decode b_Mod_offsets 9 = .ok (.istore_n 3, 1) := by decide +kernel
theorem d_Mod_offsets_10 : decode b_Mod_offsets 10 = .ok (.iconst 0, 1) := by decide +kernel
theorem d_Mod_offsets_11 : decode b_Mod_offsets 11 = .ok (.istore 4, 2) := by decide +kernel
theorem d_Mod_offsets_13 : decode b_Mod_offsets 13 = .ok (.iload 4, 2) := by decide +kernel
theorem d_Mod_offsets_15 : decode b_Mod_offsets 15 = .ok (.aload_n 0, 1) := by decide +kernel
theorem d_Mod_offsets_16 : decode b_Mod_offsets 16 = .ok (.getfield 137, 3) := by decide +kernel
theorem d_Mod_offsets_19 : decode b_Mod_offsets 19 = .ok (.if_icmp .ge 37, 3) := by decide +kernel
theorem d_Mod_offsets_22 : decode b_Mod_offsets 22 = .ok (.iload_n 3, 1) := by decide +kernel
theorem d_Mod_offsets_23 : decode b_Mod_offsets 23 = .ok (.ifCond .ne 21, 3) := by decide +kernel
theorem d_Mod_offsets_26 : decode b_Mod_offsets 26 = .ok (.aload_n 0, 1) := by decide +kernel
theorem d_Mod_offsets_27 : decode b_Mod_offsets 27 = .ok (.getfield 51, 3) := by decide +kernel
theorem d_Mod_offsets_30 : decode b_Mod_offsets 30 = .ok (.iload 4, 2) := by decide +kernel
theorem d_Mod_offsets_32 : decode b_Mod_offsets 32 = .ok (.iaload, 1) := by decide +kernel
theorem d_Mod_offsets_33 : decode b_Mod_offsets 33 = .ok (.iload_n 1, 1) := by decide +kernel
theorem d_Mod_offsets_34 : decode b_Mod_offsets 34 = .ok (.aload_n 0, 1) := by decide +kernel
theorem d_Mod_offsets_35 : decode b_Mod_offsets 35 = .ok (.getfield 54, 3) := by decide +kernel
theorem d_Mod_offsets_38 : decode b_Mod_offsets 38 = .ok (.iload_n 2, 1) := by decide +kernel
theorem d_Mod_offsets_39 : decode b_Mod_offsets 39 = .ok (.iaload, 1) := by decide +kernel
theorem d_Mod_offsets_40 : decode b_Mod_offsets 40 = .ok (.isub, 1) := by decide +kernel
theorem d_Mod_offsets_41 : decode b_Mod_offsets 41 = .ok (.if_icmp .ne 7, 3) := by decide +kernel
theorem d_Mod_offsets_44 : decode b_Mod_offsets 44 = .ok (.iconst 1, 1) := by decide +kernel
theorem d_Mod_offsets_45 : decode b_Mod_offsets 45 = .ok (.goto 4, 3) := by decide +kernel
theorem d_Mod_offsets_48 : decode b_Mod_offsets 48 = .ok (.iconst 0, 1) := by decide +kernel
theorem d_Mod_offsets_49 : decode b_Mod_offsets 49 = .ok (.istore_n 3, 1) := by decide +kernel
theorem d_Mod_offsets_50 : decode b_Mod_offsets 50 = .ok (.iinc 4 1, 3) := by decide +kernel
theorem d_Mod_offsets_53 : decode b_Mod_offsets 53 = .ok (.goto (-40), 3) := by decide +kernel
theorem d_Mod_offsets_56 : decode b_Mod_offsets 56 = .ok (.iload_n 3, 1) := by decide +kernel
theorem d_Mod_offsets_57 : decode b_Mod_offsets 57 = .ok (.ifCond .eq 13, 3) := by decide +kernel
theorem d_Mod_offsets_60 : decode b_Mod_offsets 60 = .ok (.aload_n 0, 1) := by decide +kernel
theorem d_Mod_offsets_61 : decode b_Mod_offsets 61 = .ok (.getfield 57, 3) := by decide +kernel
theorem d_Mod_offsets_64 : decode b_Mod_offsets 64 = .ok (.iload_n 2, 1) := by decide +kernel
theorem d_Mod_offsets_65 : decode b_Mod_offsets 65 = .ok (.dup2, 1) := by decide +kernel
theorem d_Mod_offsets_66 : decode b_Mod_offsets 66 = .ok (.iaload, 1) := by decide +kernel
theorem d_Mod_offsets_67 : decode b_Mod_offsets 67 = .ok (.iconst 1, 1) := by decide +kernel
theorem d_Mod_offsets_68 : decode b_Mod_offsets 68 = .ok (.iadd, 1) := by decide +kernel
theorem d_Mod_offsets_69 : decode b_Mod_offsets 69 = .ok (.iastore, 1) := by decide +kernel
theorem d_Mod_offsets_70 : decode b_Mod_offsets 70 = .ok (.aload_n 0, 1) := by decide +kernel
theorem d_Mod_offsets_71 : decode b_Mod_offsets 71 = .ok (.dup, 1) := by decide +kernel
theorem d_Mod_offsets_72 : decode b_Mod_offsets 72 = .ok (.getfield 134, 3) := by decide +kernel
theorem d_Mod_offsets_75 : decode b_Mod_offsets 75 = .ok (.iconst 1, 1) := by decide +kernel
theorem d_Mod_offsets_76 : decode b_Mod_offsets 76 = .ok (.iadd, 1) := by decide +kernel
theorem d_Mod_offsets_77 : decode b_Mod_offsets 77 = .ok (.putfield 134, 3) := by decide +kernel
theorem d_Mod_offsets_80 : decode b_Mod_offsets 80 = .ok (.aload_n 0, 1) := by decide +kernel
theorem d_Mod_offsets_81 : decode b_Mod_offsets 81 = .ok (.getfield 57, 3) := by decide +kernel
theorem d_Mod_offsets_84 : decode b_Mod_offsets 84 = .ok (.iload_n 2, 1) := by decide +kernel
theorem d_Mod_offsets_85 : decode b_Mod_offsets 85 = .ok (.iaload, 1) := by decide +kernel
theorem d_Mod_offsets_86 : decode b_Mod_offsets 86 = .ok (.bipush 15, 2) := by decide +kernel
theorem d_Mod_offsets_88 : decode b_Mod_offsets 88 = .ok (.if_icmp .eq 13, 3) := by decide +kernel
theorem d_Mod_offsets_91 : decode b_Mod_offsets 91 = .ok (.aload_n 0, 1) := by decide +kernel
theorem d_Mod_offsets_92 : decode b_Mod_offsets 92 = .ok (.getfield 134, 3) := by decide +kernel
theorem d_Mod_offsets_95 : decode b_Mod_offsets 95 = .ok (.sipush 240, 3) := by decide +kernel
theorem d_Mod_offsets_98 : decode b_Mod_offsets 98 = .ok (.if_icmp .ne 7, 3) := by decide +kernel
theorem d_Mod_offsets_101 : decode b_Mod_offsets 101 = .ok (.aload_n 0, 1) := by decide +kernel
theorem d_Mod_offsets_102 : decode b_Mod_offsets 102 = .ok (.invokevirtual 140, 3) := by decide +kernel
theorem d_Mod_offsets_105 : decode b_Mod_offsets 105 = .ok (.aload_n 0, 1) := by decide +kernel
theorem d_Mod_offsets_106 : decode b_Mod_offsets 106 = .ok (.getfield 47, 3) := by decide +kernel
theorem d_Mod_offsets_109 : decode b_Mod_offsets 109 = .ok (.ifCond .eq 12, 3) := by decide +kernel
theorem d_Mod_offsets_112 : decode b_Mod_offsets 112 = .ok (.aload_n 0, 1) := by decide +kernel
theorem d_Mod_offsets_113 : decode b_Mod_offsets 113 = .ok (.iload_n 1, 1) := by decide +kernel
theorem d_Mod_offsets_114 : decode b_Mod_offsets 114 = .ok (.aload_n 0, 1) := by decide +kernel
theorem d_Mod_offsets_115 : decode b_Mod_offsets 115 = .ok (.getfield 47, 3) := by decide +kernel
theorem d_Mod_offsets_118 : decode b_Mod_offsets 118 = .ok (.invokevirtual 124, 3) := by decide +kernel
theorem d_Mod_offsets_121 : decode b_Mod_offsets 121 = .ok (.aload_n 0, 1) := by decide +kernel
theorem d_Mod_offsets_122 : decode b_Mod_offsets 122 = .ok (.getfield 137, 3) := by decide +kernel
theorem d_Mod_offsets_125 : decode b_Mod_offsets 125 = .ok (.bipush 32, 2) := by decide +kernel
theorem d_Mod_offsets_127 : decode b_Mod_offsets 127 = .ok (.if_icmp .ge 13, 3) := by decide +kernel
theorem d_Mod_offsets_130 : decode b_Mod_offsets 130 = .ok (.aload_n 0, 1) := by decide +kernel
theorem d_Mod_offsets_131 : decode b_Mod_offsets 131 = .ok (.dup, 1) := by decide +kernel
theorem d_Mod_offsets_132 : decode b_Mod_offsets 132 = .ok (.getfield 137, 3) := by decide +kernel
theorem d_Mod_offsets_135 : decode b_Mod_offsets 135 = .ok (.iconst 1, 1) := by decide +kernel
theorem d_Mod_offsets_136 : decode b_Mod_offsets 136 = .ok (.iadd, 1) := by decide +kernel
theorem d_Mod_offsets_137 : decode b_Mod_offsets 137 = .ok (.putfield 137, 3) := by decide +kernel
theorem d_Mod_offsets_140 : decode b_Mod_offsets 140 = .ok (.aload_n 0, 1) := by decide +kernel
theorem d_Mod_offsets_141 : decode b_Mod_offsets 141 = .ok (.getfield 137, 3) := by decide +kernel
theorem d_Mod_offsets_144 : decode b_Mod_offsets 144 = .ok (.iconst 1, 1) := by decide +kernel
theorem d_Mod_offsets_145 : decode b_Mod_offsets 145 = .ok (.isub, 1) := by decide +kernel
theorem d_Mod_offsets_146 : decode b_Mod_offsets 146 = .ok (.istore 4, 2) := by decide +kernel
theorem d_Mod_offsets_148 : decode b_Mod_offsets 148 = .ok (.iload 4, 2) := by decide +kernel
theorem d_Mod_offsets_150 : decode b_Mod_offsets 150 = .ok (.ifCond .le 25, 3) := by decide +kernel
theorem d_Mod_offsets_153 : decode b_Mod_offsets 153 = .ok (.aload_n 0, 1) := by decide +kernel
theorem d_Mod_offsets_154 : decode b_Mod_offsets 154 = .ok (.getfield 51, 3) := by decide +kernel
theorem d_Mod_offsets_157 : decode b_Mod_offsets 157 = .ok (.iload 4, 2) := by decide +kernel
theorem d_Mod_offsets_159 : decode b_Mod_offsets 159 = .ok (.aload_n 0, 1) := by decide +kernel
theorem d_Mod_offsets_160 : decode b_Mod_offsets 160 = .ok (.getfield 51, 3) := by decide +kernel
theorem d_Mod_offsets_163 : decode b_Mod_offsets 163 = .ok (.iload 4, 2) := by decide +kernel
theorem d_Mod_offsets_165 : decode b_Mod_offsets 165 = .ok (.iconst 1, 1) := by decide +kernel
theorem d_Mod_offsets_166 : decode b_Mod_offsets 166 = .ok (.isub, 1) := by decide +kernel
theorem d_Mod_offsets_167 : decode b_Mod_offsets 167 = .ok (.iaload, 1) := by decide +kernel
theorem d_Mod_offsets_168 : decode b_Mod_offsets 168 = .ok (.iastore, 1) := by decide +kernel
theorem d_Mod_offsets_169 : decode b_Mod_offsets 169 = .ok (.iinc 4 (-1), 3) := by decide +kernel
theorem d_Mod_offsets_172 : decode b_Mod_offsets 172 = .ok (.goto (-24), 3) := by decide +kernel
theorem d_Mod_offsets_175 : decode b_Mod_offsets 175 = .ok (.aload_n 0, 1) := by decide +kernel
theorem d_Mod_offsets_176 : decode b_Mod_offsets 176 = .ok (.getfield 51, 3) := by decide +kernel
theorem d_Mod_offsets_179 : decode b_Mod_offsets 179 = .ok (.iconst 0, 1) := by decide +kernel
theorem d_Mod_offsets_180 : decode b_Mod_offsets 180 = .ok (.iload_n 1, 1) := by decide +kernel
theorem d_Mod_offsets_181 : decode b_Mod_offsets 181 = .ok (.iastore, 1) := by decide +kernel
theorem d_Mod_offsets_182 : decode b_Mod_offsets 182 = .ok (.return_, 1) := by decide +kernel
theorem d_Mod_pairs_0 : decode b_Mod_pairs 0 = .ok (.aload_n 0, 1) := by decide +kernel
theorem d_Mod_pairs_1 : decode b_Mod_pairs 1 = .ok (.getfield 143, 3) := by decide +kernel
theorem d_Mod_pairs_4 : decode b_Mod_pairs 4 = .ok (.bipush 63, 2) := by decide +kernel
theorem d_Mod_pairs_6 : decode b_Mod_pairs 6 = .ok (.iand, 1) := by decide +kernel
theorem d_Mod_pairs_7 : decode b_Mod_pairs 7 = .ok (.istore_n 2, 1) := by decide +kernel
theorem d_Mod_pairs_8 : decode b_Mod_pairs 8 = .ok (.aload_n 0, 1) := by decide +kernel
theorem d_Mod_pairs_9 : decode b_Mod_pairs 9 = .ok (.getfield 146, 3) := by decide +kernel
theorem d_Mod_pairs_12 : decode b_Mod_pairs 12 = .ok (.ifCond .eq 115, 3) := by decide +kernel
theorem d_Mod_pairs_15 : decode b_Mod_pairs 15 = .ok (.aload_n 0, 1) := by decide +kernel
theorem d_Mod_pairs_16 : decode b_Mod_pairs 16 = .ok (.getfield 60, 3) := by decide +kernel
theorem d_Mod_pairs_19 : decode b_Mod_pairs 19 = .ok (.iload_n 2, 1) := by decide +kernel
theorem d_Mod_pairs_20 : decode b_Mod_pairs 20 = .ok (.baload, 1) := by decide +kernel
theorem d_Mod_pairs_21 : decode b_Mod_pairs 21 = .ok (.ifCond .eq 16, 3) := by decide +kernel
theorem d_Mod_pairs_24 : decode b_Mod_pairs 24 = .ok (.aload_n 0, 1) := by decide +kernel
theorem d_Mod_pairs_25 : decode b_Mod_pairs 25 = .ok (.getfield 63, 3) := by decide +kernel
theorem d_Mod_pairs_28 : decode b_Mod_pairs 28 = .ok (.iload_n 2, 1) := by decide +kernel
theorem d_Mod_pairs_29 : decode b_Mod_pairs 29 = .ok (.iaload, 1) := by decide +kernel
theorem d_Mod_pairs_30 : decode b_Mod_pairs 30 = .ok (.aload_n 0, 1) := by decide +kernel
theorem d_Mod_pairs_31 : decode b_Mod_pairs 31 = .ok (.getfield 143, 3) := by decide +kernel
theorem d_Mod_pairs_34 : decode b_Mod_pairs 34 = .ok (.if_icmp .eq 27, 3) := by decide +kernel
theorem d_Mod_pairs_37 : decode b_Mod_pairs 37 = .ok (.aload_n 0, 1) := by decide +kernel
theorem d_Mod_pairs_38 : decode b_Mod_pairs 38 = .ok (.getfield 60, 3) := by decide +kernel
theorem d_Mod_pairs_41 : decode b_Mod_pairs 41 = .ok (.iload_n 2, 1) := by decide +kernel
theorem d_Mod_pairs_42 : decode b_Mod_pairs 42 = .ok (.iconst 1, 1) := by decide +kernel
theorem d_Mod_pairs_43 : decode b_Mod_pairs 43 = .ok (.bastore, 1) := by decide +kernel
theorem d_Mod_pairs_44 : decode b_Mod_pairs 44 = .ok (.aload_n 0, 1) := by decide +kernel
theorem d_Mod_pairs_45 : decode b_Mod_pairs 45 = .ok (.getfield 63, 3) := by decide +kernel
theorem d_Mod_pairs_48 : decode b_Mod_pairs 48 = .ok (.iload_n 2, 1) := by decide +kernel
theorem d_Mod_pairs_49 : decode b_Mod_pairs 49 = .ok (.aload_n 0, 1) := by decide +kernel
theorem d_Mod_pairs_50 : decode b_Mod_pairs 50 = .ok (.getfield 143, 3) := by decide +kernel
theorem d_Mod_pairs_53 : decode b_Mod_pairs 53 = .ok (.iastore, 1) := by decide +kernel
theorem d_Mod_pairs_54 : decode b_Mod_pairs 54 = .ok (.aload_n 0, 1) := by decide +kernel
theorem d_Mod_pairs_55 : decode b_Mod_pairs 55 = .ok (.getfield 66, 3) := by decide +kernel
theorem d_Mod_pairs_58 : decode b_Mod_pairs 58 = .ok (.iload_n 2, 1) := by decide +kernel
theorem d_Mod_pairs_59 : decode b_Mod_pairs 59 = .ok (.iconst 0, 1) := by decide +kernel
theorem d_Mod_pairs_60 : decode b_Mod_pairs 60 = .ok (.iastore, 1) := by decide +kernel
theorem d_Mod_pairs_61 : decode b_Mod_pairs 61 = .ok (.aload_n 0, 1) := by decide +kernel
theorem d_Mod_pairs_62 : decode b_Mod_pairs 62 = .ok (.getfield 66, 3) := by decide +kernel
theorem d_Mod_pairs_65 : decode b_Mod_pairs 65 = .ok (.iload_n 2, 1) := by decide +kernel
theorem d_Mod_pairs_66 : decode b_Mod_pairs 66 = .ok (.iaload, 1) := by decide +kernel
theorem d_Mod_pairs_67 : decode b_Mod_pairs 67 = .ok (.ifCond .eq 13, 3) := by decide +kernel
theorem d_Mod_pairs_70 : decode b_Mod_pairs 70 = .ok (.aload_n 0, 1) := by decide +kernel
theorem d_Mod_pairs_71 : decode b_Mod_pairs 71 = .ok (.getfield 69, 3) := by decide +kernel
theorem d_Mod_pairs_74 : decode b_Mod_pairs 74 = .ok (.iload_n 2, 1) := by decide +kernel
theorem d_Mod_pairs_75 : decode b_Mod_pairs 75 = .ok (.iaload, 1) := by decide +kernel
theorem d_Mod_pairs_76 : decode b_Mod_pairs 76 = .ok (.iload_n 1, 1) := by decide +kernel
theorem d_Mod_pairs_77 : decode b_Mod_pairs 77 = .ok (.if_icmp .eq 50, 3) := by decide +kernel
theorem d_Mod_pairs_80 : decode b_Mod_pairs 80 = .ok (.aload_n 0, 1) := by decide +kernel
theorem d_Mod_pairs_81 : decode b_Mod_pairs 81 = .ok (.getfield 72, 3) := by decide +kernel
theorem d_Mod_pairs_84 : decode b_Mod_pairs 84 = .ok (.iload_n 2, 1) := by decide +kernel
theorem d_Mod_pairs_85 : decode b_Mod_pairs 85 = .ok (.aload_n 0, 1) := by decide +kernel
theorem d_Mod_pairs_86 : decode b_Mod_pairs 86 = .ok (.getfield 69, 3) := by decide +kernel
theorem d_Mod_pairs_89 : decode b_Mod_pairs 89 = .ok (.iload_n 2, 1) := by decide +kernel
theorem d_Mod_pairs_90 : decode b_Mod_pairs 90 = .ok (.iaload, 1) := by decide +kernel
theorem d_Mod_pairs_91 : decode b_Mod_pairs 91 = .ok (.iastore, 1) := by decide +kernel
theorem d_Mod_pairs_92 : decode b_Mod_pairs 92 = .ok (.aload_n 0, 1) := by decide +kernel
theorem d_Mod_pairs_93 : decode b_Mod_pairs 93 = .ok (.getfield 69, 3) := by decide +kernel
theorem d_Mod_pairs_96 : decode b_Mod_pairs 96 = .ok (.iload_n 2, 1) := by decide +kernel
theorem d_Mod_pairs_97 : decode b_Mod_pairs 97 = .ok (.iload_n 1, 1) := by decide +kernel
theorem d_Mod_pairs_98 : decode b_Mod_pairs 98 = .ok (.iastore, 1) := by decide +kernel
theorem d_Mod_pairs_99 : decode b_Mod_pairs 99 = .ok (.aload_n 0, 1) := by decide +kernel
theorem d_Mod_pairs_100 : decode b_Mod_pairs 100 = .ok (.getfield 66, 3) := by decide +kernel
theorem d_Mod_pairs_103 : decode b_Mod_pairs 103 = .ok (.iload_n 2, 1) := by decide +kernel
theorem d_Mod_pairs_104 : decode b_Mod_pairs 104 = .ok (.aload_n 0, 1) := by decide +kernel
theorem d_Mod_pairs_105 : decode b_Mod_pairs 105 = .ok (.getfield 66, 3) := by decide +kernel
theorem d_Mod_pairs_108 : decode b_Mod_pairs 108 = .ok (.iload_n 2, 1) := by decide +kernel
theorem d_Mod_pairs_109 : decode b_Mod_pairs 109 = .ok (.iaload, 1) := by decide +kernel
theorem d_Mod_pairs_110 : decode b_Mod_pairs 110 = .ok (.iconst 2, 1) := by decide +kernel
theorem d_Mod_pairs_111 : decode b_Mod_pairs 111 = .ok (.if_icmp .ge 14, 3) := by decide +kernel
theorem d_Mod_pairs_114 : decode b_Mod_pairs 114 = .ok (.aload_n 0, 1) := by decide +kernel
theorem d_Mod_pairs_115 : decode b_Mod_pairs 115 = .ok (.getfield 66, 3) := by decide +kernel
theorem d_Mod_pairs_118 : decode b_Mod_pairs 118 = .ok (.iload_n 2, 1) := by decide +kernel
theorem d_Mod_pairs_119 : decode b_Mod_pairs 119 = .ok (.iaload, 1) := by decide +kernel
theorem d_Mod_pairs_120 : decode b_Mod_pairs 120 = .ok (.iconst 1, 1) := by decide +kernel
theorem d_Mod_pairs_121 : decode b_Mod_pairs 121 = .ok (.iadd, 1) := by decide +kernel
theorem d_Mod_pairs_122 : decode b_Mod_pairs 122 = .ok (.goto 4, 3) := by decide +kernel
theorem d_Mod_pairs_125 : decode b_Mod_pairs 125 = .ok (.iconst 2, 1) := by decide +kernel
theorem d_Mod_pairs_126 : decode b_Mod_pairs 126 = .ok (.iastore, 1) := by decide +kernel
theorem d_Mod_pairs_127 : decode b_Mod_pairs 127 = .ok (.aload_n 0, 1) := by decide +kernel
theorem d_Mod_pairs_128 : decode b_Mod_pairs 128 = .ok (.iconst 1, 1) := by decide +kernel
theorem d_Mod_pairs_129 : decode b_Mod_pairs 129 = .ok (.putfield 146, 3) := by decide +kernel
theorem d_Mod_pairs_132 : decode b_Mod_pairs 132 = .ok (.aload_n 0, 1) := by decide +kernel
theorem d_Mod_pairs_133 : decode b_Mod_pairs 133 = .ok (.iload_n 1, 1) := by decide +kernel
theorem d_Mod_pairs_134 : decode b_Mod_pairs 134 = .ok (.putfield 143, 3) := by decide +kernel
theorem d_Mod_pairs_137 : decode b_Mod_pairs 137 = .ok (.iload_n 1, 1) := by decide +kernel
theorem d_Mod_pairs_138 : decode b_Mod_pairs 138 = .ok (.bipush 63, 2) := by decide +kernel
theorem d_Mod_pairs_140 : decode b_Mod_pairs 140 = .ok (.iand, 1) := by decide +kernel
theorem d_Mod_pairs_141 : decode b_Mod_pairs 141 = .ok (.istore_n 2, 1) := by decide +kernel
theorem d_Mod_pairs_142 : decode b_Mod_pairs 142 = .ok (.aload_n 0, 1) := by decide +kernel
theorem d_Mod_pairs_143 : decode b_Mod_pairs 143 = .ok (.getfield 60, 3) := by decide +kernel
theorem d_Mod_pairs_146 : decode b_Mod_pairs 146 = .ok (.iload_n 2, 1) := by decide +kernel
theorem d_Mod_pairs_147 : decode b_Mod_pairs 147 = .ok (.baload, 1) := by decide +kernel
theorem d_Mod_pairs_148 : decode b_Mod_pairs 148 = .ok (.ifCond .eq 13, 3) := by decide +kernel
theorem d_Mod_pairs_151 : decode b_Mod_pairs 151 = .ok (.aload_n 0, 1) := by decide +kernel
theorem d_Mod_pairs_152 : decode b_Mod_pairs 152 = .ok (.getfield 63, 3) := by decide +kernel
theorem d_Mod_pairs_155 : decode b_Mod_pairs 155 = .ok (.iload_n 2, 1) := by decide +kernel
theorem d_Mod_pairs_156 : decode b_Mod_pairs 156 = .ok (.iaload, 1) := by decide +kernel
theorem d_Mod_pairs_157 : decode b_Mod_pairs 157 = .ok (.iload_n 1, 1) := by decide +kernel
theorem d_Mod_pairs_158 : decode b_Mod_pairs 158 = .ok (.if_icmp .eq 4, 3) := by decide +kernel
theorem d_Mod_pairs_161 : decode b_Mod_pairs 161 = .ok (.return_, 1) := by decide +kernel
theorem d_Mod_pairs_162 : decode b_Mod_pairs 162 = .ok (.aload_n 0, 1) := by decide +kernel
theorem d_Mod_pairs_163 : decode b_Mod_pairs 163 = .ok (.getfield 69, 3) := by decide +kernel
theorem d_Mod_pairs_166 : decode b_Mod_pairs 166 = .ok (.iload_n 2, 1) := by decide +kernel
theorem d_Mod_pairs_167 : decode b_Mod_pairs 167 = .ok (.iaload, 1) := by decide +kernel
theorem d_Mod_pairs_168 : decode b_Mod_pairs 168 = .ok (.istore_n 3, 1) := by decide +kernel
theorem d_Mod_pairs_169 : decode b_Mod_pairs 169 = .ok (.aload_n 0, 1) := by decide +kernel
theorem d_Mod_pairs_170 : decode b_Mod_pairs 170 = .ok (.getfield 72, 3) := by decide +kernel
theorem d_Mod_pairs_173 : decode b_Mod_pairs 173 = .ok (.iload_n 2, 1) := by decide +kernel
theorem d_Mod_pairs_174 : decode b_Mod_pairs 174 = .ok (.iaload, 1) := by decide +kernel
theorem d_Mod_pairs_175 : decode b_Mod_pairs 175 = .ok (.istore 4, 2) := by decide +kernel
theorem d_Mod_pairs_177 : decode b_Mod_pairs 177 = .ok (.aload_n 0, 1) := by decide +kernel
theorem d_Mod_pairs_178 : decode b_Mod_pairs 178 = .ok (.getfield 66, 3) := by decide +kernel
theorem d_Mod_pairs_181 : decode b_Mod_pairs 181 = .ok (.iload_n 2, 1) := by decide +kernel
theorem d_Mod_pairs_182 : decode b_Mod_pairs 182 = .ok (.iaload, 1) := by decide +kernel
theorem d_Mod_pairs_183 : decode b_Mod_pairs 183 = .ok (.ifCond .le 8, 3) := by decide +kernel
theorem d_Mod_pairs_186 : decode b_Mod_pairs 186 = .ok (.aload_n 0, 1) := by decide +kernel
theorem d_Mod_pairs_187 : decode b_Mod_pairs 187 = .ok (.iload_n 3, 1) := by decide +kernel
theorem d_Mod_pairs_188 : decode b_Mod_pairs 188 = .ok (.invokevirtual 121, 3) := by decide +kernel
theorem d_Mod_pairs_191 : decode b_Mod_pairs 191 = .ok (.aload_n 0, 1) := by decide +kernel
theorem d_Mod_pairs_192 : decode b_Mod_pairs 192 = .ok (.getfield 66, 3) := by decide +kernel
theorem d_Mod_pairs_195 : decode b_Mod_pairs 195 = .ok (.iload_n 2, 1) := by decide +kernel
theorem d_Mod_pairs_196 : decode b_Mod_pairs 196 = .ok (.iaload, 1) := by decide +kernel
theorem d_Mod_pairs_197 : decode b_Mod_pairs 197 = .ok (.iconst 1, 1) := by decide +kernel
theorem d_Mod_pairs_198 : decode b_Mod_pairs 198 = .ok (.if_icmp .le 17, 3) := by decide +kernel
theorem d_Mod_pairs_201 : decode b_Mod_pairs 201 = .ok (.aload_n 0, 1) := by decide +kernel
theorem d_Mod_pairs_202 : decode b_Mod_pairs 202 = .ok (.getfield 82, 3) := by decide +kernel
theorem d_Mod_pairs_205 : decode b_Mod_pairs 205 = .ok (.iconst 1, 1) := by decide +kernel
theorem d_Mod_pairs_206 : decode b_Mod_pairs 206 = .ok (.if_icmp .le 9, 3) := by decide +kernel
theorem d_Mod_pairs_209 : decode b_Mod_pairs 209 = .ok (.aload_n 0, 1) := by decide +kernel
theorem d_Mod_pairs_210 : decode b_Mod_pairs 210 = .ok (.iload 4, 2) := by decide +kernel
theorem d_Mod_pairs_212 : decode b_Mod_pairs 212 = .ok (.invokevirtual 121, 3) := by decide +kernel
theorem d_Mod_pairs_215 : decode b_Mod_pairs 215 = .ok (.return_, 1) := by decide +kernel
theorem d_Mod_pass_0 : decode b_Mod_pass 0 = .ok (.aload_n 0, 1) := by decide +kernel
theorem d_Mod_pass_1 : decode b_Mod_pass 1 = .ok (.iconst 0, 1) := by decide +kernel
theorem d_Mod_pass_2 : decode b_Mod_pass 2 = .ok (.putfield 91, 3) := by decide +kernel
theorem d_Mod_pass_5 : decode b_Mod_pass 5 = .ok (.iload_n 1, 1) := by decide +kernel
theorem d_Mod_pass_6 : decode b_Mod_pass 6 = .ok (.iconst 1, 1) := by decide +kernel
theorem d_Mod_pass_7 : decode b_Mod_pass 7 = .ok (.bipush 100, 2) := by decide +kernel
theorem d_Mod_pass_9 : decode b_Mod_pass 9 = .ok (.invokestatic 166, 3) := by decide +kernel
theorem d_Mod_pass_12 : decode b_Mod_pass 12 = .ok (.ifCond .ne 9, 3) := by decide +kernel
theorem d_Mod_pass_15 : decode b_Mod_pass 15 = .ok (.aload_n 0, 1) := by decide +kernel
theorem d_Mod_pass_16 : decode b_Mod_pass 16 = .ok (.iconst 1, 1) := by decide +kernel
theorem d_Mod_pass_17 : decode b_Mod_pass 17 = .ok (.invokevirtual 170, 3) := by decide +kernel
theorem d_Mod_pass_20 : decode b_Mod_pass 20 = .ok (.ireturn, 1) := by decide +kernel
theorem d_Mod_pass_21 : decode b_Mod_pass 21 = .ok (.iconst 0, 1) := by decide +kernel
theorem d_Mod_pass_22 : decode b_Mod_pass 22 = .ok (.istore_n 2, 1) := by decide +kernel
theorem d_Mod_pass_23 : decode b_Mod_pass 23 = .ok (.iconst 0, 1) := by decide +kernel
theorem d_Mod_pass_24 : decode b_Mod_pass 24 = .ok (.istore_n 3, 1) := by decide +kernel
theorem d_Mod_pass_25 : decode b_Mod_pass 25 = .ok (.iload_n 3, 1) := by decide +kernel
theorem d_Mod_pass_26 : decode b_Mod_pass 26 = .ok (.iload_n 1, 1) := by decide +kernel
theorem d_Mod_pass_27 : decode b_Mod_pass 27 = .ok (.if_icmp .ge 16, 3) := by decide +kernel
theorem d_Mod_pass_30 : decode b_Mod_pass 30 = .ok (.iload_n 2, 1) := by decide +kernel
theorem d_Mod_pass_31 : decode b_Mod_pass 31 = .ok (.aload_n 0, 1) := by decide +kernel
theorem d_Mod_pass_32 : decode b_Mod_pass 32 = .ok (.invokevirtual 150, 3) := by decide +kernel
theorem d_Mod_pass_35 : decode b_Mod_pass 35 = .ok (.iadd, 1) := by decide +kernel
theorem d_Mod_pass_36 : decode b_Mod_pass 36 = .ok (.istore_n 2, 1) := by decide +kernel
theorem d_Mod_pass_37 : decode b_Mod_pass 37 = .ok (.iinc 3 1, 3) := by decide +kernel
theorem d_Mod_pass_40 : decode b_Mod_pass 40 = .ok (.goto (-15), 3) := by decide +kernel
theorem d_Mod_pass_43 : decode b_Mod_pass 43 = .ok (.iload_n 2, 1) := by decide +kernel
theorem d_Mod_pass_44 : decode b_Mod_pass 44 = .ok (.ireturn, 1) := by decide +kernel
theorem d_Mod_placeOf_0 : decode b_Mod_placeOf 0 = .ok (.iconst (-1), 1) := by decide +kernel
theorem d_Mod_placeOf_1 : decode b_Mod_placeOf 1 = .ok (.istore_n 2, 1) := by decide +kernel
theorem d_Mod_placeOf_2 : decode b_Mod_placeOf 2 = .ok (.iconst 0, 1) := by decide +kernel
theorem d_Mod_placeOf_3 : decode b_Mod_placeOf 3 = .ok (.istore_n 3, 1) := by decide +kernel
theorem d_Mod_placeOf_4 : decode b_Mod_placeOf 4 = .ok (.iload_n 3, 1) := by decide +kernel
theorem d_Mod_placeOf_5 : decode b_Mod_placeOf 5 = .ok (.aload_n 0, 1) := by decide +kernel
theorem d_Mod_placeOf_6 : decode b_Mod_placeOf 6 = .ok (.getfield 94, 3) := by decide +kernel
theorem d_Mod_placeOf_9 : decode b_Mod_placeOf 9 = .ok (.if_icmp .ge 25, 3) := by decide +kernel
theorem d_Mod_placeOf_12 : decode b_Mod_placeOf 12 = .ok (.aload_n 0, 1) := by decide +kernel
theorem d_Mod_placeOf_13 : decode b_Mod_placeOf 13 = .ok (.getfield 13, 3) := by decide +kernel
theorem d_Mod_placeOf_16 : decode b_Mod_placeOf 16 = .ok (.iload_n 3, 1) := by decide +kernel
theorem d_Mod_placeOf_17 : decode b_Mod_placeOf 17 = .ok (.iaload, 1) := by decide +kernel
theorem d_Mod_placeOf_18 : decode b_Mod_placeOf 18 = .ok (.iload_n 1, 1) := by decide +kernel
theorem d_Mod_placeOf_19 : decode b_Mod_placeOf 19 = .ok (.if_icmp .ne 7, 3) := by decide +kernel
theorem d_Mod_placeOf_22 : decode b_Mod_placeOf 22 = .ok (.iload_n 3, 1) := by decide +kernel
theorem d_Mod_placeOf_23 : decode b_Mod_placeOf 23 = .ok (.goto 4, 3) := by decide +kernel
theorem d_Mod_placeOf_26 : decode b_Mod_placeOf 26 = .ok (.iload_n 2, 1) := by decide +kernel
theorem d_Mod_placeOf_27 : decode b_Mod_placeOf 27 = .ok (.istore_n 2, 1) := by decide +kernel
theorem d_Mod_placeOf_28 : decode b_Mod_placeOf 28 = .ok (.iinc 3 1, 3) := by decide +kernel
theorem d_Mod_placeOf_31 : decode b_Mod_placeOf 31 = .ok (.goto (-27), 3) := by decide +kernel
theorem d_Mod_placeOf_34 : decode b_Mod_placeOf 34 = .ok (.iload_n 2, 1) := by decide +kernel
theorem d_Mod_placeOf_35 : decode b_Mod_placeOf 35 = .ok (.ireturn, 1) := by decide +kernel
theorem d_Mod_queueOf_0 : decode b_Mod_queueOf 0 = .ok (.iconst (-1), 1) := by decide +kernel
theorem d_Mod_queueOf_1 : decode b_Mod_queueOf 1 = .ok (.istore_n 2, 1) := by decide +kernel
theorem d_Mod_queueOf_2 : decode b_Mod_queueOf 2 = .ok (.iconst 0, 1) := by decide +kernel
theorem d_Mod_queueOf_3 : decode b_Mod_queueOf 3 = .ok (.istore_n 3, 1) := by decide +kernel
theorem d_Mod_queueOf_4 : decode b_Mod_queueOf 4 = .ok (.iload_n 3, 1) := by decide +kernel
theorem d_Mod_queueOf_5 : decode b_Mod_queueOf 5 = .ok (.aload_n 0, 1) := by decide +kernel
theorem d_Mod_queueOf_6 : decode b_Mod_queueOf 6 = .ok (.getfield 97, 3) := by decide +kernel
theorem d_Mod_queueOf_9 : decode b_Mod_queueOf 9 = .ok (.if_icmp .ge 25, 3) := by decide +kernel
theorem d_Mod_queueOf_12 : decode b_Mod_queueOf 12 = .ok (.aload_n 0, 1) := by decide +kernel
theorem d_Mod_queueOf_13 : decode b_Mod_queueOf 13 = .ok (.getfield 20, 3) := by decide +kernel
theorem d_Mod_queueOf_16 : decode b_Mod_queueOf 16 = .ok (.iload_n 3, 1) := by decide +kernel
theorem d_Mod_queueOf_17 : decode b_Mod_queueOf 17 = .ok (.iaload, 1) := by decide +kernel
theorem d_Mod_queueOf_18 : decode b_Mod_queueOf 18 = .ok (.iload_n 1, 1) := by decide +kernel
theorem d_Mod_queueOf_19 : decode b_Mod_queueOf 19 = .ok (.if_icmp .ne 7, 3) := by decide +kernel
theorem d_Mod_queueOf_22 : decode b_Mod_queueOf 22 = .ok (.iload_n 3, 1) := by decide +kernel
theorem d_Mod_queueOf_23 : decode b_Mod_queueOf 23 = .ok (.goto 4, 3) := by decide +kernel
theorem d_Mod_queueOf_26 : decode b_Mod_queueOf 26 = .ok (.iload_n 2, 1) := by decide +kernel
theorem d_Mod_queueOf_27 : decode b_Mod_queueOf 27 = .ok (.istore_n 2, 1) := by decide +kernel
theorem d_Mod_queueOf_28 : decode b_Mod_queueOf 28 = .ok (.iinc 3 1, 3) := by decide +kernel
theorem d_Mod_queueOf_31 : decode b_Mod_queueOf 31 = .ok (.goto (-27), 3) := by decide +kernel
theorem d_Mod_queueOf_34 : decode b_Mod_queueOf 34 = .ok (.iload_n 2, 1) := by decide +kernel
theorem d_Mod_queueOf_35 : decode b_Mod_queueOf 35 = .ok (.ireturn, 1) := by decide +kernel
theorem d_Mod_queued_0 : decode b_Mod_queued 0 = .ok (.aload_n 0, 1) := by decide +kernel
theorem d_Mod_queued_1 : decode b_Mod_queued 1 = .ok (.iconst 0, 1) := by decide +kernel
theorem d_Mod_queued_2 : decode b_Mod_queued 2 = .ok (.putfield 91, 3) := by decide +kernel
theorem d_Mod_queued_5 : decode b_Mod_queued 5 = .ok (.iload_n 1, 1) := by decide +kernel
theorem d_Mod_queued_6 : decode b_Mod_queued 6 = .ok (.iconst 0, 1) := by decide +kernel
theorem d_Mod_queued_7 : decode b_Mod_queued 7 = .ok (.aload_n 0, 1) := by decide +kernel
theorem d_Mod_queued_8 : decode b_Mod_queued 8 = .ok (.getfield 97, 3) := by decide +kernel
theorem d_Mod_queued_11 : decode b_Mod_queued 11 = .ok (.iconst 1, 1) := by decide +kernel
theorem d_Mod_queued_12 : decode b_Mod_queued 12 = .ok (.isub, 1) := by decide +kernel
theorem d_Mod_queued_13 : decode b_Mod_queued 13 = .ok (.invokestatic 166, 3) := by decide +kernel
theorem d_Mod_queued_16 : decode b_Mod_queued 16 = .ok (.ifCond .eq 12, 3) := by decide +kernel
theorem d_Mod_queued_19 : decode b_Mod_queued 19 = .ok (.iload_n 2, 1) := by decide +kernel
theorem d_Mod_queued_20 : decode b_Mod_queued 20 = .ok (.iconst 0, 1) := by decide +kernel
theorem d_Mod_queued_21 : decode b_Mod_queued 21 = .ok (.iconst 1, 1) := by decide +kernel
theorem d_Mod_queued_22 : decode b_Mod_queued 22 = .ok (.invokestatic 166, 3) := by decide +kernel
theorem d_Mod_queued_25 : decode b_Mod_queued 25 = .ok (.ifCond .ne 9, 3) := by decide +kernel
theorem d_Mod_queued_28 : decode b_Mod_queued 28 = .ok (.aload_n 0, 1) := by decide +kernel
theorem d_Mod_queued_29 : decode b_Mod_queued 29 = .ok (.iconst 1, 1) := by decide +kernel
theorem d_Mod_queued_30 : decode b_Mod_queued 30 = .ok (.invokevirtual 170, 3) := by decide +kernel
theorem d_Mod_queued_33 : decode b_Mod_queued 33 = .ok (.ireturn, 1) := by decide +kernel
theorem d_Mod_queued_34 : decode b_Mod_queued 34 = .ok (.iload_n 2, 1) := by decide +kernel
theorem d_Mod_queued_35 : decode b_Mod_queued 35 = .ok (.ifCond .ne 12, 3) := by decide +kernel
theorem d_Mod_queued_38 : decode b_Mod_queued 38 = .ok (.aload_n 0, 1) := by decide +kernel
theorem d_Mod_queued_39 : decode b_Mod_queued 39 = .ok (.getfield 20, 3) := by decide +kernel
theorem d_Mod_queued_42 : decode b_Mod_queued 42 = .ok (.iload_n 1, 1) := by decide +kernel
theorem d_Mod_queued_43 : decode b_Mod_queued 43 = .ok (.iaload, 1) := by decide +kernel
theorem d_Mod_queued_44 : decode b_Mod_queued 44 = .ok (.goto 14, 3) := by decide +kernel
theorem d_Mod_queued_47 : decode b_Mod_queued 47 = .ok (.aload_n 0, 1) := by decide +kernel
theorem d_Mod_queued_48 : decode b_Mod_queued 48 = .ok (.getfield 23, 3) := by decide +kernel
theorem d_Mod_queued_51 : decode b_Mod_queued 51 = .ok (.iload_n 1, 1) := by decide +kernel
theorem d_Mod_queued_52 : decode b_Mod_queued 52 = .ok (.iaload, 1) := by decide +kernel
theorem d_Mod_queued_53 : decode b_Mod_queued 53 = .ok (.aload_n 0, 1) := by decide +kernel
theorem d_Mod_queued_54 : decode b_Mod_queued 54 = .ok (.getfield 104, 3) := by decide +kernel
theorem d_Mod_queued_57 : decode b_Mod_queued 57 = .ok (.isub, 1) := by decide +kernel
theorem d_Mod_queued_58 : decode b_Mod_queued 58 = .ok (.ireturn, 1) := by decide +kernel
theorem d_Mod_say_0 : decode b_Mod_say 0 = .ok (.aload_n 0, 1) := by decide +kernel
theorem d_Mod_say_1 : decode b_Mod_say 1 = .ok (.iload_n 1, 1) := by decide +kernel
theorem d_Mod_say_2 : decode b_Mod_say 2 = .ok (.invokevirtual 114, 3) := by decide +kernel
theorem d_Mod_say_5 : decode b_Mod_say 5 = .ok (.ifCond .ge 11, 3) := by decide +kernel
theorem d_Mod_say_8 : decode b_Mod_say 8 = .ok (.aload_n 0, 1) := by decide +kernel
theorem d_Mod_say_9 : decode b_Mod_say 9 = .ok (.iload_n 1, 1) := by decide +kernel
theorem d_Mod_say_10 : decode b_Mod_say 10 = .ok (.invokevirtual 118, 3) := by decide +kernel
theorem d_Mod_say_13 : decode b_Mod_say 13 = .ok (.ifCond .lt 17, 3) := by decide +kernel
theorem d_Mod_say_16 : decode b_Mod_say 16 = .ok (.aload_n 0, 1) := by decide +kernel
theorem d_Mod_say_17 : decode b_Mod_say 17 = .ok (.getfield 7, 3) := by decide +kernel
theorem d_Mod_say_20 : decode b_Mod_say 20 = .ok (.bipush 6, 2) := by decide +kernel
theorem d_Mod_say_22 : decode b_Mod_say 22 = .ok (.dup2, 1) := by decide +kernel
theorem d_Mod_say_23 : decode b_Mod_say 23 = .ok (.iaload, 1) := by decide +kernel
theorem d_Mod_say_24 : decode b_Mod_say 24 = .ok (.iconst 1, 1) := by decide +kernel
theorem d_Mod_say_25 : decode b_Mod_say 25 = .ok (.iadd, 1) := by decide +kernel
theorem d_Mod_say_26 : decode b_Mod_say 26 = .ok (.iastore, 1) := by decide +kernel
theorem d_Mod_say_27 : decode b_Mod_say 27 = .ok (.goto 75, 3) := by decide +kernel
theorem d_Mod_say_30 : decode b_Mod_say 30 = .ok (.aload_n 0, 1) := by decide +kernel
theorem d_Mod_say_31 : decode b_Mod_say 31 = .ok (.getfield 97, 3) := by decide +kernel
theorem d_Mod_say_34 : decode b_Mod_say 34 = .ok (.bipush 8, 2) := by decide +kernel
theorem d_Mod_say_36 : decode b_Mod_say 36 = .ok (.if_icmp .ne 17, 3) := by decide +kernel
theorem d_Mod_say_39 : decode b_Mod_say 39 = .ok (.aload_n 0, 1) := by decide +kernel
theorem d_Mod_say_40 : decode b_Mod_say 40 = .ok (.getfield 7, 3) := by decide +kernel
theorem d_Mod_say_43 : decode b_Mod_say 43 = .ok (.bipush 7, 2) := by decide +kernel
theorem d_Mod_say_45 : decode b_Mod_say 45 = .ok (.dup2, 1) := by decide +kernel
theorem d_Mod_say_46 : decode b_Mod_say 46 = .ok (.iaload, 1) := by decide +kernel
theorem d_Mod_say_47 : decode b_Mod_say 47 = .ok (.iconst 1, 1) := by decide +kernel
theorem d_Mod_say_48 : decode b_Mod_say 48 = .ok (.iadd, 1) := by decide +kernel
theorem d_Mod_say_49 : decode b_Mod_say 49 = .ok (.iastore, 1) := by decide +kernel
theorem d_Mod_say_50 : decode b_Mod_say 50 = .ok (.goto 52, 3) := by decide +kernel
theorem d_Mod_say_53 : decode b_Mod_say 53 = .ok (.aload_n 0, 1) := by decide +kernel
theorem d_Mod_say_54 : decode b_Mod_say 54 = .ok (.getfield 20, 3) := by decide +kernel
theorem d_Mod_say_57 : decode b_Mod_say 57 = .ok (.aload_n 0, 1) := by decide +kernel
theorem d_Mod_say_58 : decode b_Mod_say 58 = .ok (.getfield 97, 3) := by decide +kernel
theorem d_Mod_say_61 : decode b_Mod_say 61 = .ok (.iload_n 1, 1) := by decide +kernel
theorem d_Mod_say_62 : decode b_Mod_say 62 = .ok (.iastore, 1) := by decide +kernel
theorem d_Mod_say_63 : decode b_Mod_say 63 = .ok (.aload_n 0, 1) := by decide +kernel
theorem d_Mod_say_64 : decode b_Mod_say 64 = .ok (.getfield 23, 3) := by decide +kernel
theorem d_Mod_say_67 : decode b_Mod_say 67 = .ok (.aload_n 0, 1) := by decide +kernel
theorem d_Mod_say_68 : decode b_Mod_say 68 = .ok (.getfield 97, 3) := by decide +kernel
theorem d_Mod_say_71 : decode b_Mod_say 71 = .ok (.aload_n 0, 1) := by decide +kernel
theorem d_Mod_say_72 : decode b_Mod_say 72 = .ok (.getfield 104, 3) := by decide +kernel
theorem d_Mod_say_75 : decode b_Mod_say 75 = .ok (.aload_n 0, 1) := by decide +kernel
theorem d_Mod_say_76 : decode b_Mod_say 76 = .ok (.getfield 85, 3) := by decide +kernel
theorem d_Mod_say_79 : decode b_Mod_say 79 = .ok (.iadd, 1) := by decide +kernel
theorem d_Mod_say_80 : decode b_Mod_say 80 = .ok (.iastore, 1) := by decide +kernel
theorem d_Mod_say_81 : decode b_Mod_say 81 = .ok (.aload_n 0, 1) := by decide +kernel
theorem d_Mod_say_82 : decode b_Mod_say 82 = .ok (.dup, 1) := by decide +kernel
theorem d_Mod_say_83 : decode b_Mod_say 83 = .ok (.getfield 97, 3) := by decide +kernel
theorem d_Mod_say_86 : decode b_Mod_say 86 = .ok (.iconst 1, 1) := by decide +kernel
theorem d_Mod_say_87 : decode b_Mod_say 87 = .ok (.iadd, 1) := by decide +kernel
theorem d_Mod_say_88 : decode b_Mod_say 88 = .ok (.putfield 97, 3) := by decide +kernel
theorem d_Mod_say_91 : decode b_Mod_say 91 = .ok (.aload_n 0, 1) := by decide +kernel
theorem d_Mod_say_92 : decode b_Mod_say 92 = .ok (.getfield 7, 3) := by decide +kernel
theorem d_Mod_say_95 : decode b_Mod_say 95 = .ok (.bipush 8, 2) := by decide +kernel
theorem d_Mod_say_97 : decode b_Mod_say 97 = .ok (.dup2, 1) := by decide +kernel
theorem d_Mod_say_98 : decode b_Mod_say 98 = .ok (.iaload, 1) := by decide +kernel
theorem d_Mod_say_99 : decode b_Mod_say 99 = .ok (.iconst 1, 1) := by decide +kernel
theorem d_Mod_say_100 : decode b_Mod_say 100 = .ok (.iadd, 1) := by decide +kernel
theorem d_Mod_say_101 : decode b_Mod_say 101 = .ok (.iastore, 1) := by decide +kernel
theorem d_Mod_say_102 : decode b_Mod_say 102 = .ok (.return_, 1) := by decide +kernel
theorem d_Mod_sayRow_0 : decode b_Mod_sayRow 0 = .ok (.iconst 1, 1) := by decide +kernel
theorem d_Mod_sayRow_1 : decode b_Mod_sayRow 1 = .ok (.istore_n 3, 1) := by decide +kernel
theorem d_Mod_sayRow_2 : decode b_Mod_sayRow 2 = .ok (.iload_n 3, 1) := by decide +kernel
theorem d_Mod_sayRow_3 : decode b_Mod_sayRow 3 = .ok (.aload_n 0, 1) := by decide +kernel
theorem d_Mod_sayRow_4 : decode b_Mod_sayRow 4 = .ok (.getfield 82, 3) := by decide +kernel
theorem d_Mod_sayRow_7 : decode b_Mod_sayRow 7 = .ok (.if_icmp .gt 18, 3) := by decide +kernel
theorem d_Mod_sayRow_10 : decode b_Mod_sayRow 10 = .ok (.aload_n 0, 1) := by decide +kernel
theorem d_Mod_sayRow_11 : decode b_Mod_sayRow 11 = .ok (.iload_n 1, 1) := by decide +kernel
theorem d_Mod_sayRow_12 : decode b_Mod_sayRow 12 = .ok (.iload_n 3, 1) := by decide +kernel
theorem d_Mod_sayRow_13 : decode b_Mod_sayRow 13 = .ok (.iload_n 2, 1) := by decide +kernel
theorem d_Mod_sayRow_14 : decode b_Mod_sayRow 14 = .ok (.imul, 1) := by decide +kernel
theorem d_Mod_sayRow_15 : decode b_Mod_sayRow 15 = .ok (.iadd, 1) := by decide +kernel
theorem d_Mod_sayRow_16 : decode b_Mod_sayRow 16 = .ok (.invokevirtual 121, 3) := by decide +kernel
theorem d_Mod_sayRow_19 : decode b_Mod_sayRow 19 = .ok (.iinc 3 1, 3) := by decide +kernel
theorem d_Mod_sayRow_22 : decode b_Mod_sayRow 22 = .ok (.goto (-20), 3) := by decide +kernel
theorem d_Mod_sayRow_25 : decode b_Mod_sayRow 25 = .ok (.return_, 1) := by decide +kernel
theorem d_Mod_state_0 : decode b_Mod_state 0 = .ok (.aload_n 0, 1) := by decide +kernel
theorem d_Mod_state_1 : decode b_Mod_state 1 = .ok (.iconst 0, 1) := by decide +kernel
theorem d_Mod_state_2 : decode b_Mod_state 2 = .ok (.putfield 91, 3) := by decide +kernel
theorem d_Mod_state_5 : decode b_Mod_state 5 = .ok (.aload_n 0, 1) := by decide +kernel
theorem d_Mod_state_6 : decode b_Mod_state 6 = .ok (.iload_n 1, 1) := by decide +kernel
theorem d_Mod_state_7 : decode b_Mod_state 7 = .ok (.invokevirtual 114, 3) := by decide +kernel
theorem d_Mod_state_10 : decode b_Mod_state 10 = .ok (.istore_n 2, 1) := by decide +kernel
theorem d_Mod_state_11 : decode b_Mod_state 11 = .ok (.iload_n 2, 1) := by decide +kernel
theorem d_Mod_state_12 : decode b_Mod_state 12 = .ok (.ifCond .lt 20, 3) := by decide +kernel
theorem d_Mod_state_15 : decode b_Mod_state 15 = .ok (.aload_n 0, 1) := by decide +kernel
theorem d_Mod_state_16 : decode b_Mod_state 16 = .ok (.getfield 16, 3) := by decide +kernel
theorem d_Mod_state_19 : decode b_Mod_state 19 = .ok (.iload_n 2, 1) := by decide +kernel
theorem d_Mod_state_20 : decode b_Mod_state 20 = .ok (.baload, 1) := by decide +kernel
theorem d_Mod_state_21 : decode b_Mod_state 21 = .ok (.ifCond .eq 7, 3) := by decide +kernel
theorem d_Mod_state_24 : decode b_Mod_state 24 = .ok (.iconst 2, 1) := by decide +kernel
theorem d_Mod_state_25 : decode b_Mod_state 25 = .ok (.goto 20, 3) := by decide +kernel
theorem d_Mod_state_28 : decode b_Mod_state 28 = .ok (.iconst 1, 1) := by decide +kernel
theorem d_Mod_state_29 : decode b_Mod_state 29 = .ok (.goto 16, 3) := by decide +kernel
theorem d_Mod_state_32 : decode b_Mod_state 32 = .ok (.aload_n 0, 1) := by decide +kernel
theorem d_Mod_state_33 : decode b_Mod_state 33 = .ok (.iload_n 1, 1) := by decide +kernel
theorem d_Mod_state_34 : decode b_Mod_state 34 = .ok (.invokevirtual 118, 3) := by decide +kernel
theorem d_Mod_state_37 : decode b_Mod_state 37 = .ok (.ifCond .lt 7, 3) := by decide +kernel
theorem d_Mod_state_40 : decode b_Mod_state 40 = .ok (.iconst 3, 1) := by decide +kernel
theorem d_Mod_state_41 : decode b_Mod_state 41 = .ok (.goto 4, 3) := by decide +kernel
theorem d_Mod_state_44 : decode b_Mod_state 44 = .ok (.iconst 0, 1) := by decide +kernel
theorem d_Mod_state_45 : decode b_Mod_state 45 = .ok (.ireturn, 1) := by decide +kernel
theorem d_Mod_stored_0 : decode b_Mod_stored 0 = .ok (.aload_n 0, 1) := by decide +kernel
theorem d_Mod_stored_1 : decode b_Mod_stored 1 = .ok (.iconst 0, 1) := by decide +kernel
theorem d_Mod_stored_2 : decode b_Mod_stored 2 = .ok (.putfield 91, 3) := by decide +kernel
theorem d_Mod_stored_5 : decode b_Mod_stored 5 = .ok (.iload_n 1, 1) := by decide +kernel
theorem d_Mod_stored_6 : decode b_Mod_stored 6 = .ok (.iconst 0, 1) := by decide +kernel
theorem d_Mod_stored_7 : decode b_Mod_stored 7 = .ok (.aload_n 0, 1) := by decide +kernel
theorem d_Mod_stored_8 : decode b_Mod_stored 8 = .ok (.getfield 94, 3) := by decide +kernel
theorem d_Mod_stored_11 : decode b_Mod_stored 11 = .ok (.iconst 1, 1) := by decide +kernel
theorem d_Mod_stored_12 : decode b_Mod_stored 12 = .ok (.isub, 1) := by decide +kernel
theorem d_Mod_stored_13 : decode b_Mod_stored 13 = .ok (.invokestatic 166, 3) := by decide +kernel
theorem d_Mod_stored_16 : decode b_Mod_stored 16 = .ok (.ifCond .eq 12, 3) := by decide +kernel
theorem d_Mod_stored_19 : decode b_Mod_stored 19 = .ok (.aload_n 0, 1) := by decide +kernel
theorem d_Mod_stored_20 : decode b_Mod_stored 20 = .ok (.getfield 13, 3) := by decide +kernel
theorem d_Mod_stored_23 : decode b_Mod_stored 23 = .ok (.iload_n 1, 1) := by decide +kernel
theorem d_Mod_stored_24 : decode b_Mod_stored 24 = .ok (.iaload, 1) := by decide +kernel
theorem d_Mod_stored_25 : decode b_Mod_stored 25 = .ok (.goto 8, 3) := by decide +kernel
theorem d_Mod_stored_28 : decode b_Mod_stored 28 = .ok (.aload_n 0, 1) := by decide +kernel
theorem d_Mod_stored_29 : decode b_Mod_stored 29 = .ok (.iconst 1, 1) := by decide +kernel
theorem d_Mod_stored_30 : decode b_Mod_stored 30 = .ok (.invokevirtual 170, 3) := by decide +kernel
theorem d_Mod_stored_33 : decode b_Mod_stored 33 = .ok (.ireturn, 1) := by decide +kernel
theorem d_Mod_strides_0 : decode b_Mod_strides 0 = .ok (.iload_n 1, 1) := by decide +kernel
theorem d_Mod_strides_1 : decode b_Mod_strides 1 = .ok (.bipush 15, 2) := by decide +kernel
theorem d_Mod_strides_3 : decode b_Mod_strides 3 = .ok (.iand, 1) := by decide +kernel
theorem d_Mod_strides_4 : decode b_Mod_strides 4 = .ok (.istore_n 3, 1) := by decide +kernel
theorem d_Mod_strides_5 : decode b_Mod_strides 5 = .ok (.aload_n 0, 1) := by decide +kernel
theorem d_Mod_strides_6 : decode b_Mod_strides 6 = .ok (.getfield 26, 3) := by decide +kernel
theorem d_Mod_strides_9 : decode b_Mod_strides 9 = .ok (.iload_n 3, 1) := by decide +kernel
theorem d_Mod_strides_10 : decode b_Mod_strides 10 = .ok (.baload, 1) := by decide +kernel
theorem d_Mod_strides_11 : decode b_Mod_strides 11 = .ok (.ifCond .eq 13, 3) := by decide +kernel
theorem d_Mod_strides_14 : decode b_Mod_strides 14 = .ok (.aload_n 0, 1) := by decide +kernel
theorem d_Mod_strides_15 : decode b_Mod_strides 15 = .ok (.getfield 29, 3) := by decide +kernel
theorem d_Mod_strides_18 : decode b_Mod_strides 18 = .ok (.iload_n 3, 1) := by decide +kernel
theorem d_Mod_strides_19 : decode b_Mod_strides 19 = .ok (.iaload, 1) := by decide +kernel
theorem d_Mod_strides_20 : decode b_Mod_strides 20 = .ok (.iload_n 1, 1) := by decide +kernel
theorem d_Mod_strides_21 : decode b_Mod_strides 21 = .ok (.if_icmp .eq 39, 3) := by decide +kernel
theorem d_Mod_strides_24 : decode b_Mod_strides 24 = .ok (.aload_n 0, 1) := by decide +kernel
theorem d_Mod_strides_25 : decode b_Mod_strides 25 = .ok (.getfield 26, 3) := by decide +kernel
theorem d_Mod_strides_28 : decode b_Mod_strides 28 = .ok (.iload_n 3, 1) := by decide +kernel
theorem d_Mod_strides_29 : decode b_Mod_strides 29 = .ok (.iconst 1, 1) := by decide +kernel
theorem d_Mod_strides_30 : decode b_Mod_strides 30 = .ok (.bastore, 1) := by decide +kernel
theorem d_Mod_strides_31 : decode b_Mod_strides 31 = .ok (.aload_n 0, 1) := by decide +kernel
theorem d_Mod_strides_32 : decode b_Mod_strides 32 = .ok (.getfield 29, 3) := by decide +kernel
theorem d_Mod_strides_35 : decode b_Mod_strides 35 = .ok (.iload_n 3, 1) := by decide +kernel
theorem d_Mod_strides_36 : decode b_Mod_strides 36 = .ok (.iload_n 1, 1) := by decide +kernel
theorem d_Mod_strides_37 : decode b_Mod_strides 37 = .ok (.iastore, 1) := by decide +kernel
theorem d_Mod_strides_38 : decode b_Mod_strides 38 = .ok (.aload_n 0, 1) := by decide +kernel
theorem d_Mod_strides_39 : decode b_Mod_strides 39 = .ok (.getfield 32, 3) := by decide +kernel
theorem d_Mod_strides_42 : decode b_Mod_strides 42 = .ok (.iload_n 3, 1) := by decide +kernel
theorem d_Mod_strides_43 : decode b_Mod_strides 43 = .ok (.iload_n 2, 1) := by decide +kernel
theorem d_Mod_strides_44 : decode b_Mod_strides 44 = .ok (.iastore, 1) := by decide +kernel
theorem d_Mod_strides_45 : decode b_Mod_strides 45 = .ok (.aload_n 0, 1) := by decide +kernel
theorem d_Mod_strides_46 : decode b_Mod_strides 46 = .ok (.getfield 35, 3) := by decide +kernel
theorem d_Mod_strides_49 : decode b_Mod_strides 49 = .ok (.iload_n 3, 1) := by decide +kernel
theorem d_Mod_strides_50 : decode b_Mod_strides 50 = .ok (.iconst 0, 1) := by decide +kernel
theorem d_Mod_strides_51 : decode b_Mod_strides 51 = .ok (.iastore, 1) := by decide +kernel
theorem d_Mod_strides_52 : decode b_Mod_strides 52 = .ok (.aload_n 0, 1) := by decide +kernel
theorem d_Mod_strides_53 : decode b_Mod_strides 53 = .ok (.getfield 38, 3) := by decide +kernel
theorem d_Mod_strides_56 : decode b_Mod_strides 56 = .ok (.iload_n 3, 1) := by decide +kernel
theorem d_Mod_strides_57 : decode b_Mod_strides 57 = .ok (.iconst 0, 1) := by decide +kernel
theorem d_Mod_strides_58 : decode b_Mod_strides 58 = .ok (.iastore, 1) := by decide +kernel
theorem d_Mod_strides_59 : decode b_Mod_strides 59 = .ok (.return_, 1) := by decide +kernel
theorem d_Mod_strides_60 : decode b_Mod_strides 60 = .ok (.iload_n 2, 1) := by decide +kernel
theorem d_Mod_strides_61 : decode b_Mod_strides 61 = .ok (.aload_n 0, 1) := by decide +kernel
theorem d_Mod_strides_62 : decode b_Mod_strides 62 = .ok (.getfield 32, 3) := by decide +kernel
theorem d_Mod_strides_65 : decode b_Mod_strides 65 = .ok (.iload_n 3, 1) := by decide +kernel
theorem d_Mod_strides_66 : decode b_Mod_strides 66 = .ok (.iaload, 1) := by decide +kernel
theorem d_Mod_strides_67 : decode b_Mod_strides 67 = .ok (.isub, 1) := by decide +kernel
theorem d_Mod_strides_68 : decode b_Mod_strides 68 = .ok (.istore 4, 2) := by decide +kernel
theorem d_Mod_strides_70 : decode b_Mod_strides 70 = .ok (.iload 4, 2) := by decide +kernel
theorem d_Mod_strides_72 : decode b_Mod_strides 72 = .ok (.aload_n 0, 1) := by decide +kernel
theorem d_Mod_strides_73 : decode b_Mod_strides 73 = .ok (.getfield 35, 3) := by decide +kernel
theorem d_Mod_strides_76 : decode b_Mod_strides 76 = .ok (.iload_n 3, 1) := by decide +kernel
theorem d_Mod_strides_77 : decode b_Mod_strides 77 = .ok (.iaload, 1) := by decide +kernel
theorem d_Mod_strides_78 : decode b_Mod_strides 78 = .ok (.if_icmp .ne 34, 3) := by decide +kernel
theorem d_Mod_strides_81 : decode b_Mod_strides 81 = .ok (.aload_n 0, 1) := by decide +kernel
theorem d_Mod_strides_82 : decode b_Mod_strides 82 = .ok (.getfield 38, 3) := by decide +kernel
theorem d_Mod_strides_85 : decode b_Mod_strides 85 = .ok (.iload_n 3, 1) := by decide +kernel
theorem d_Mod_strides_86 : decode b_Mod_strides 86 = .ok (.aload_n 0, 1) := by decide +kernel
theorem d_Mod_strides_87 : decode b_Mod_strides 87 = .ok (.getfield 38, 3) := by decide +kernel
theorem d_Mod_strides_90 : decode b_Mod_strides 90 = .ok (.iload_n 3, 1) := by decide +kernel
theorem d_Mod_strides_91 : decode b_Mod_strides 91 = .ok (.iaload, 1) := by decide +kernel
theorem d_Mod_strides_92 : decode b_Mod_strides 92 = .ok (.iconst 3, 1) := by decide +kernel
theorem d_Mod_strides_93 : decode b_Mod_strides 93 = .ok (.if_icmp .ge 14, 3) := by decide +kernel
theorem d_Mod_strides_96 : decode b_Mod_strides 96 = .ok (.aload_n 0, 1) := by decide +kernel
theorem d_Mod_strides_97 : decode b_Mod_strides 97 = .ok (.getfield 38, 3) := by decide +kernel
theorem d_Mod_strides_100 : decode b_Mod_strides 100 = .ok (.iload_n 3, 1) := by decide +kernel
theorem d_Mod_strides_101 : decode b_Mod_strides 101 = .ok (.iaload, 1) := by decide +kernel
theorem d_Mod_strides_102 : decode b_Mod_strides 102 = .ok (.iconst 1, 1) := by decide +kernel
theorem d_Mod_strides_103 : decode b_Mod_strides 103 = .ok (.iadd, 1) := by decide +kernel
theorem d_Mod_strides_104 : decode b_Mod_strides 104 = .ok (.goto 4, 3) := by decide +kernel
theorem d_Mod_strides_107 : decode b_Mod_strides 107 = .ok (.iconst 3, 1) := by decide +kernel
theorem d_Mod_strides_108 : decode b_Mod_strides 108 = .ok (.iastore, 1) := by decide +kernel
theorem d_Mod_strides_109 : decode b_Mod_strides 109 = .ok (.goto 33, 3) := by decide +kernel
theorem d_Mod_strides_112 : decode b_Mod_strides 112 = .ok (.aload_n 0, 1) := by decide +kernel
theorem d_Mod_strides_113 : decode b_Mod_strides 113 = .ok (.getfield 38, 3) := by decide +kernel
theorem d_Mod_strides_116 : decode b_Mod_strides 116 = .ok (.iload_n 3, 1) := by decide +kernel
theorem d_Mod_strides_117 : decode b_Mod_strides 117 = .ok (.iaload, 1) := by decide +kernel
theorem d_Mod_strides_118 : decode b_Mod_strides 118 = .ok (.ifCond .le 16, 3) := by decide +kernel
theorem d_Mod_strides_121 : decode b_Mod_strides 121 = .ok (.aload_n 0, 1) := by decide +kernel
theorem d_Mod_strides_122 : decode b_Mod_strides 122 = .ok (.getfield 38, 3) := by decide +kernel
theorem d_Mod_strides_125 : decode b_Mod_strides 125 = .ok (.iload_n 3, 1) := by decide +kernel
theorem d_Mod_strides_126 : decode b_Mod_strides 126 = .ok (.dup2, 1) := by decide +kernel
theorem d_Mod_strides_127 : decode b_Mod_strides 127 = .ok (.iaload, 1) := by decide +kernel
theorem d_Mod_strides_128 : decode b_Mod_strides 128 = .ok (.iconst 1, 1) := by decide +kernel
theorem d_Mod_strides_129 : decode b_Mod_strides 129 = .ok (.isub, 1) := by decide +kernel
theorem d_Mod_strides_130 : decode b_Mod_strides 130 = .ok (.iastore, 1) := by decide +kernel
theorem d_Mod_strides_131 : decode b_Mod_strides 131 = .ok (.goto 11, 3) := by decide +kernel
theorem d_Mod_strides_134 : decode b_Mod_strides 134 = .ok (.aload_n 0, 1) := by decide +kernel
theorem d_Mod_strides_135 : decode b_Mod_strides 135 = .ok (.getfield 35, 3) := by decide +kernel
theorem d_Mod_strides_138 : decode b_Mod_strides 138 = .ok (.iload_n 3, 1) := by decide +kernel
theorem d_Mod_strides_139 : decode b_Mod_strides 139 = .ok (.iload 4, 2) := by decide +kernel
theorem d_Mod_strides_141 : decode b_Mod_strides 141 = .ok (.iastore, 1) := by decide +kernel
theorem d_Mod_strides_142 : decode b_Mod_strides 142 = .ok (.aload_n 0, 1) := by decide +kernel
theorem d_Mod_strides_143 : decode b_Mod_strides 143 = .ok (.getfield 32, 3) := by decide +kernel
theorem d_Mod_strides_146 : decode b_Mod_strides 146 = .ok (.iload_n 3, 1) := by decide +kernel
theorem d_Mod_strides_147 : decode b_Mod_strides 147 = .ok (.iload_n 2, 1) := by decide +kernel
theorem d_Mod_strides_148 : decode b_Mod_strides 148 = .ok (.iastore, 1) := by decide +kernel
theorem d_Mod_strides_149 : decode b_Mod_strides 149 = .ok (.aload_n 0, 1) := by decide +kernel
theorem d_Mod_strides_150 : decode b_Mod_strides 150 = .ok (.getfield 38, 3) := by decide +kernel
theorem d_Mod_strides_153 : decode b_Mod_strides 153 = .ok (.iload_n 3, 1) := by decide +kernel
theorem d_Mod_strides_154 : decode b_Mod_strides 154 = .ok (.iaload, 1) := by decide +kernel
theorem d_Mod_strides_155 : decode b_Mod_strides 155 = .ok (.iconst 2, 1) := by decide +kernel
theorem d_Mod_strides_156 : decode b_Mod_strides 156 = .ok (.if_icmp .lt 23, 3) := by decide +kernel
theorem d_Mod_strides_159 : decode b_Mod_strides 159 = .ok (.aload_n 0, 1) := by decide +kernel
theorem d_Mod_strides_160 : decode b_Mod_strides 160 = .ok (.getfield 35, 3) := by decide +kernel
theorem d_Mod_strides_163 : decode b_Mod_strides 163 = .ok (.iload_n 3, 1) := by decide +kernel
theorem d_Mod_strides_164 : decode b_Mod_strides 164 = .ok (.iaload, 1) := by decide +kernel
theorem d_Mod_strides_165 : decode b_Mod_strides 165 = .ok (.ifCond .eq 14, 3) := by decide +kernel
theorem d_Mod_strides_168 : decode b_Mod_strides 168 = .ok (.aload_n 0, 1) := by decide +kernel
theorem d_Mod_strides_169 : decode b_Mod_strides 169 = .ok (.iload_n 2, 1) := by decide +kernel
theorem d_Mod_strides_170 : decode b_Mod_strides 170 = .ok (.aload_n 0, 1) := by decide +kernel
theorem d_Mod_strides_171 : decode b_Mod_strides 171 = .ok (.getfield 35, 3) := by decide +kernel
theorem d_Mod_strides_174 : decode b_Mod_strides 174 = .ok (.iload_n 3, 1) := by decide +kernel
theorem d_Mod_strides_175 : decode b_Mod_strides 175 = .ok (.iaload, 1) := by decide +kernel
theorem d_Mod_strides_176 : decode b_Mod_strides 176 = .ok (.invokevirtual 124, 3) := by decide +kernel
theorem d_Mod_strides_179 : decode b_Mod_strides 179 = .ok (.return_, 1) := by decide +kernel
theorem d_Mod_takeOut_0 : decode b_Mod_takeOut 0 = .ok (.aload_n 0, 1) := by decide +kernel
theorem d_Mod_takeOut_1 : decode b_Mod_takeOut 1 = .ok (.dup, 1) := by decide +kernel
theorem d_Mod_takeOut_2 : decode b_Mod_takeOut 2 = .ok (.getfield 97, 3) := by decide +kernel
theorem d_Mod_takeOut_5 : decode b_Mod_takeOut 5 = .ok (.iconst 1, 1) := by decide +kernel
theorem d_Mod_takeOut_6 : decode b_Mod_takeOut 6 = .ok (.isub, 1) := by decide +kernel
theorem d_Mod_takeOut_7 : decode b_Mod_takeOut 7 = .ok (.putfield 97, 3) := by decide +kernel
theorem d_Mod_takeOut_10 : decode b_Mod_takeOut 10 = .ok (.iload_n 1, 1) := by decide +kernel
theorem d_Mod_takeOut_11 : decode b_Mod_takeOut 11 = .ok (.istore_n 2, 1) := by decide +kernel
theorem d_Mod_takeOut_12 : decode b_Mod_takeOut 12 = .ok (.iload_n 2, 1) := by decide +kernel
theorem d_Mod_takeOut_13 : decode b_Mod_takeOut 13 = .ok (.aload_n 0, 1) := by decide +kernel
theorem d_Mod_takeOut_14 : decode b_Mod_takeOut 14 = .ok (.getfield 97, 3) := by decide +kernel
theorem d_Mod_takeOut_17 : decode b_Mod_takeOut 17 = .ok (.if_icmp .ge 37, 3) := by decide +kernel
theorem d_Mod_takeOut_20 : decode b_Mod_takeOut 20 = .ok (.aload_n 0, 1) := by decide +kernel
theorem d_Mod_takeOut_21 : decode b_Mod_takeOut 21 = .ok (.getfield 20, 3) := by decide +kernel
theorem d_Mod_takeOut_24 : decode b_Mod_takeOut 24 = .ok (.iload_n 2, 1) := by decide +kernel
theorem d_Mod_takeOut_25 : decode b_Mod_takeOut 25 = .ok (.aload_n 0, 1) := by decide +kernel
theorem d_Mod_takeOut_26 : decode b_Mod_takeOut 26 = .ok (.getfield 20, 3) := by decide +kernel
theorem d_Mod_takeOut_29 : decode b_Mod_takeOut 29 = .ok (.iload_n 2, 1) := by decide +kernel
theorem d_Mod_takeOut_30 : decode b_Mod_takeOut 30 = .ok (.iconst 1, 1) := by decide +kernel
theorem d_Mod_takeOut_31 : decode b_Mod_takeOut 31 = .ok (.iadd, 1) := by decide +kernel
theorem d_Mod_takeOut_32 : decode b_Mod_takeOut 32 = .ok (.iaload, 1) := by decide +kernel
theorem d_Mod_takeOut_33 : decode b_Mod_takeOut 33 = .ok (.iastore, 1) := by decide +kernel
theorem d_Mod_takeOut_34 : decode b_Mod_takeOut 34 = .ok (.aload_n 0, 1) := by decide +kernel
theorem d_Mod_takeOut_35 : decode b_Mod_takeOut 35 = .ok (.getfield 23, 3) := by decide +kernel
theorem d_Mod_takeOut_38 : decode b_Mod_takeOut 38 = .ok (.iload_n 2, 1) := by decide +kernel
theorem d_Mod_takeOut_39 : decode b_Mod_takeOut 39 = .ok (.aload_n 0, 1) := by decide +kernel
theorem d_Mod_takeOut_40 : decode b_Mod_takeOut 40 = .ok (.getfield 23, 3) := by decide +kernel
theorem d_Mod_takeOut_43 : decode b_Mod_takeOut 43 = .ok (.iload_n 2, 1) := by decide +kernel
theorem d_Mod_takeOut_44 : decode b_Mod_takeOut 44 = .ok (.iconst 1, 1) := by decide +kernel
theorem d_Mod_takeOut_45 : decode b_Mod_takeOut 45 = .ok (.iadd, 1) := by decide +kernel
theorem d_Mod_takeOut_46 : decode b_Mod_takeOut 46 = .ok (.iaload, 1) := by decide +kernel
theorem d_Mod_takeOut_47 : decode b_Mod_takeOut 47 = .ok (.iastore, 1) := by decide +kernel
theorem d_Mod_takeOut_48 : decode b_Mod_takeOut 48 = .ok (.iinc 2 1, 3) := by decide +kernel
theorem d_Mod_takeOut_51 : decode b_Mod_takeOut 51 = .ok (.goto (-39), 3) := by decide +kernel
theorem d_Mod_takeOut_54 : decode b_Mod_takeOut 54 = .ok (.return_, 1) := by decide +kernel
theorem d_Mod_trust_0 : decode b_Mod_trust 0 = .ok (.aload_n 0, 1) := by decide +kernel
theorem d_Mod_trust_1 : decode b_Mod_trust 1 = .ok (.iconst 0, 1) := by decide +kernel
theorem d_Mod_trust_2 : decode b_Mod_trust 2 = .ok (.putfield 91, 3) := by decide +kernel
theorem d_Mod_trust_5 : decode b_Mod_trust 5 = .ok (.iload_n 1, 1) := by decide +kernel
theorem d_Mod_trust_6 : decode b_Mod_trust 6 = .ok (.bipush 15, 2) := by decide +kernel
theorem d_Mod_trust_8 : decode b_Mod_trust 8 = .ok (.iand, 1) := by decide +kernel
theorem d_Mod_trust_9 : decode b_Mod_trust 9 = .ok (.istore_n 2, 1) := by decide +kernel
theorem d_Mod_trust_10 : decode b_Mod_trust 10 = .ok (.iload_n 1, 1) := by decide +kernel
theorem d_Mod_trust_11 : decode b_Mod_trust 11 = .ok (.bipush 63, 2) := by decide +kernel
theorem d_Mod_trust_13 : decode b_Mod_trust 13 = .ok (.iand, 1) := by decide +kernel
theorem d_Mod_trust_14 : decode b_Mod_trust 14 = .ok (.istore_n 3, 1) := by decide +kernel
theorem d_Mod_trust_15 : decode b_Mod_trust 15 = .ok (.aload_n 0, 1) := by decide +kernel
theorem d_Mod_trust_16 : decode b_Mod_trust 16 = .ok (.getfield 79, 3) := by decide +kernel
theorem d_Mod_trust_19 : decode b_Mod_trust 19 = .ok (.iconst 1, 1) := by decide +kernel
theorem d_Mod_trust_20 : decode b_Mod_trust 20 = .ok (.if_icmp .ne 33, 3) := by decide +kernel
theorem d_Mod_trust_23 : decode b_Mod_trust 23 = .ok (.aload_n 0, 1) := by decide +kernel
theorem d_Mod_trust_24 : decode b_Mod_trust 24 = .ok (.getfield 26, 3) := by decide +kernel
theorem d_Mod_trust_27 : decode b_Mod_trust 27 = .ok (.iload_n 2, 1) := by decide +kernel
theorem d_Mod_trust_28 : decode b_Mod_trust 28 = .ok (.baload, 1) := by decide +kernel
theorem d_Mod_trust_29 : decode b_Mod_trust 29 = .ok (.ifCond .eq 22, 3) := by decide +kernel
theorem d_Mod_trust_32 : decode b_Mod_trust 32 = .ok (.aload_n 0, 1) := by decide +kernel
theorem d_Mod_trust_33 : decode b_Mod_trust 33 = .ok (.getfield 29, 3) := by decide +kernel
theorem d_Mod_trust_36 : decode b_Mod_trust 36 = .ok (.iload_n 2, 1) := by decide +kernel
theorem d_Mod_trust_37 : decode b_Mod_trust 37 = .ok (.iaload, 1) := by decide +kernel
theorem d_Mod_trust_38 : decode b_Mod_trust 38 = .ok (.iload_n 1, 1) := by decide +kernel
theorem d_Mod_trust_39 : decode b_Mod_trust 39 = .ok (.if_icmp .ne 12, 3) := by decide +kernel
theorem d_Mod_trust_42 : decode b_Mod_trust 42 = .ok (.aload_n 0, 1) := by decide +kernel
theorem d_Mod_trust_43 : decode b_Mod_trust 43 = .ok (.getfield 38, 3) := by decide +kernel
theorem d_Mod_trust_46 : decode b_Mod_trust 46 = .ok (.iload_n 2, 1) := by decide +kernel
theorem d_Mod_trust_47 : decode b_Mod_trust 47 = .ok (.iaload, 1) := by decide +kernel
theorem d_Mod_trust_48 : decode b_Mod_trust 48 = .ok (.goto 4, 3) := by decide +kernel
theorem d_Mod_trust_51 : decode b_Mod_trust 51 = .ok (.iconst 0, 1) := by decide +kernel
theorem d_Mod_trust_52 : decode b_Mod_trust 52 = .ok (.ireturn, 1) := by decide +kernel
theorem d_Mod_trust_53 : decode b_Mod_trust 53 = .ok (.aload_n 0, 1) := by decide +kernel
theorem d_Mod_trust_54 : decode b_Mod_trust 54 = .ok (.getfield 79, 3) := by decide +kernel
theorem d_Mod_trust_57 : decode b_Mod_trust 57 = .ok (.iconst 2, 1) := by decide +kernel
theorem d_Mod_trust_58 : decode b_Mod_trust 58 = .ok (.if_icmp .ne 28, 3) := by decide +kernel
theorem d_Mod_trust_61 : decode b_Mod_trust 61 = .ok (.iload_n 1, 1) := by decide +kernel
theorem d_Mod_trust_62 : decode b_Mod_trust 62 = .ok (.iconst 0, 1) := by decide +kernel
theorem d_Mod_trust_63 : decode b_Mod_trust 63 = .ok (.aload_n 0, 1) := by decide +kernel
theorem d_Mod_trust_64 : decode b_Mod_trust 64 = .ok (.getfield 128, 3) := by decide +kernel
theorem d_Mod_trust_67 : decode b_Mod_trust 67 = .ok (.iconst 1, 1) := by decide +kernel
theorem d_Mod_trust_68 : decode b_Mod_trust 68 = .ok (.isub, 1) := by decide +kernel
theorem d_Mod_trust_69 : decode b_Mod_trust 69 = .ok (.invokestatic 166, 3) := by decide +kernel
theorem d_Mod_trust_72 : decode b_Mod_trust 72 = .ok (.ifCond .eq 12, 3) := by decide +kernel
theorem d_Mod_trust_75 : decode b_Mod_trust 75 = .ok (.aload_n 0, 1) := by decide +kernel
theorem d_Mod_trust_76 : decode b_Mod_trust 76 = .ok (.getfield 44, 3) := by decide +kernel
theorem d_Mod_trust_79 : decode b_Mod_trust 79 = .ok (.iload_n 1, 1) := by decide +kernel
theorem d_Mod_trust_80 : decode b_Mod_trust 80 = .ok (.iaload, 1) := by decide +kernel
theorem d_Mod_trust_81 : decode b_Mod_trust 81 = .ok (.goto 4, 3) := by decide +kernel
theorem d_Mod_trust_84 : decode b_Mod_trust 84 = .ok (.iconst 0, 1) := by decide +kernel
theorem d_Mod_trust_85 : decode b_Mod_trust 85 = .ok (.ireturn, 1) := by decide +kernel
theorem d_Mod_trust_86 : decode b_Mod_trust 86 = .ok (.aload_n 0, 1) := by decide +kernel
theorem d_Mod_trust_87 : decode b_Mod_trust 87 = .ok (.getfield 79, 3) := by decide +kernel
theorem d_Mod_trust_90 : decode b_Mod_trust 90 = .ok (.iconst 3, 1) := by decide +kernel
theorem d_Mod_trust_91 : decode b_Mod_trust 91 = .ok (.if_icmp .ne 24, 3) := by decide +kernel
theorem d_Mod_trust_94 : decode b_Mod_trust 94 = .ok (.iload_n 1, 1) := by decide +kernel
theorem d_Mod_trust_95 : decode b_Mod_trust 95 = .ok (.iconst 0, 1) := by decide +kernel
theorem d_Mod_trust_96 : decode b_Mod_trust 96 = .ok (.bipush 11, 2) := by decide +kernel
theorem d_Mod_trust_98 : decode b_Mod_trust 98 = .ok (.invokestatic 166, 3) := by decide +kernel
theorem d_Mod_trust_101 : decode b_Mod_trust 101 = .ok (.ifCond .eq 12, 3) := by decide +kernel
theorem d_Mod_trust_104 : decode b_Mod_trust 104 = .ok (.aload_n 0, 1) := by decide +kernel
theorem d_Mod_trust_105 : decode b_Mod_trust 105 = .ok (.getfield 57, 3) := by decide +kernel
theorem d_Mod_trust_108 : decode b_Mod_trust 108 = .ok (.iload_n 1, 1) := by decide +kernel
theorem d_Mod_trust_109 : decode b_Mod_trust 109 = .ok (.iaload, 1) := by decide +kernel
theorem d_Mod_trust_110 : decode b_Mod_trust 110 = .ok (.goto 4, 3) := by decide +kernel
theorem d_Mod_trust_113 : decode b_Mod_trust 113 = .ok (.iconst 0, 1) := by decide +kernel
theorem d_Mod_trust_114 : decode b_Mod_trust 114 = .ok (.ireturn, 1) := by decide +kernel
theorem d_Mod_trust_115 : decode b_Mod_trust 115 = .ok (.aload_n 0, 1) := by decide +kernel
theorem d_Mod_trust_116 : decode b_Mod_trust 116 = .ok (.getfield 79, 3) := by decide +kernel
theorem d_Mod_trust_119 : decode b_Mod_trust 119 = .ok (.ifCond .eq 22, 3) := by decide +kernel
theorem d_Mod_trust_122 : decode b_Mod_trust 122 = .ok (.aload_n 0, 1) := by decide +kernel
theorem d_Mod_trust_123 : decode b_Mod_trust 123 = .ok (.getfield 60, 3) := by decide +kernel
theorem d_Mod_trust_126 : decode b_Mod_trust 126 = .ok (.iload_n 3, 1) := by decide +kernel
theorem d_Mod_trust_127 : decode b_Mod_trust 127 = .ok (.baload, 1) := by decide +kernel
theorem d_Mod_trust_128 : decode b_Mod_trust 128 = .ok (.ifCond .eq 13, 3) := by decide +kernel
theorem d_Mod_trust_131 : decode b_Mod_trust 131 = .ok (.aload_n 0, 1) := by decide +kernel
theorem d_Mod_trust_132 : decode b_Mod_trust 132 = .ok (.getfield 63, 3) := by decide +kernel
theorem d_Mod_trust_135 : decode b_Mod_trust 135 = .ok (.iload_n 3, 1) := by decide +kernel
theorem d_Mod_trust_136 : decode b_Mod_trust 136 = .ok (.iaload, 1) := by decide +kernel
theorem d_Mod_trust_137 : decode b_Mod_trust 137 = .ok (.iload_n 1, 1) := by decide +kernel
theorem d_Mod_trust_138 : decode b_Mod_trust 138 = .ok (.if_icmp .eq 7, 3) := by decide +kernel
theorem d_Mod_trust_141 : decode b_Mod_trust 141 = .ok (.iconst 0, 1) := by decide +kernel
theorem d_Mod_trust_142 : decode b_Mod_trust 142 = .ok (.goto 23, 3) := by decide +kernel
theorem d_Mod_trust_145 : decode b_Mod_trust 145 = .ok (.aload_n 0, 1) := by decide +kernel
theorem d_Mod_trust_146 : decode b_Mod_trust 146 = .ok (.getfield 66, 3) := by decide +kernel
theorem d_Mod_trust_149 : decode b_Mod_trust 149 = .ok (.iload_n 3, 1) := by decide +kernel
theorem d_Mod_trust_150 : decode b_Mod_trust 150 = .ok (.iaload, 1) := by decide +kernel
theorem d_Mod_trust_151 : decode b_Mod_trust 151 = .ok (.iconst 1, 1) := by decide +kernel
theorem d_Mod_trust_152 : decode b_Mod_trust 152 = .ok (.if_icmp .le 12, 3) := by decide +kernel
theorem d_Mod_trust_155 : decode b_Mod_trust 155 = .ok (.aload_n 0, 1) := by decide +kernel
theorem d_Mod_trust_156 : decode b_Mod_trust 156 = .ok (.getfield 72, 3) := by decide +kernel
theorem d_Mod_trust_159 : decode b_Mod_trust 159 = .ok (.iload_n 3, 1) := by decide +kernel
theorem d_Mod_trust_160 : decode b_Mod_trust 160 = .ok (.iaload, 1) := by decide +kernel
theorem d_Mod_trust_161 : decode b_Mod_trust 161 = .ok (.goto 4, 3) := by decide +kernel
theorem d_Mod_trust_164 : decode b_Mod_trust 164 = .ok (.iconst (-1), 1) := by decide +kernel
theorem d_Mod_trust_165 : decode b_Mod_trust 165 = .ok (.ireturn, 1) := by decide +kernel
theorem d_Mod_use_0 : decode b_Mod_use 0 = .ok (.aload_n 0, 1) := by decide +kernel
theorem d_Mod_use_1 : decode b_Mod_use 1 = .ok (.getfield 13, 3) := by decide +kernel
theorem d_Mod_use_4 : decode b_Mod_use 4 = .ok (.iload_n 1, 1) := by decide +kernel
theorem d_Mod_use_5 : decode b_Mod_use 5 = .ok (.iaload, 1) := by decide +kernel
theorem d_Mod_use_6 : decode b_Mod_use 6 = .ok (.istore_n 2, 1) := by decide +kernel
theorem d_Mod_use_7 : decode b_Mod_use 7 = .ok (.aload_n 0, 1) := by decide +kernel
theorem d_Mod_use_8 : decode b_Mod_use 8 = .ok (.getfield 16, 3) := by decide +kernel
theorem d_Mod_use_11 : decode b_Mod_use 11 = .ok (.iload_n 1, 1) := by decide +kernel
theorem d_Mod_use_12 : decode b_Mod_use 12 = .ok (.baload, 1) := by decide +kernel
theorem d_Mod_use_13 : decode b_Mod_use 13 = .ok (.istore_n 3, 1) := by decide +kernel
theorem d_Mod_use_14 : decode b_Mod_use 14 = .ok (.iload_n 1, 1) := by decide +kernel
theorem d_Mod_use_15 : decode b_Mod_use 15 = .ok (.istore 4, 2) := by decide +kernel
theorem d_Mod_use_17 : decode b_Mod_use 17 = .ok (.iload 4, 2) := by decide +kernel
theorem d_Mod_use_19 : decode b_Mod_use 19 = .ok (.ifCond .le 41, 3) := by decide +kernel
theorem d_Mod_use_22 : decode b_Mod_use 22 = .ok (.aload_n 0, 1) := by decide +kernel
theorem d_Mod_use_23 : decode b_Mod_use 23 = .ok (.getfield 13, 3) := by decide +kernel
theorem d_Mod_use_26 : decode b_Mod_use 26 = .ok (.iload 4, 2) := by decide +kernel
theorem d_Mod_use_28 : decode b_Mod_use 28 = .ok (.aload_n 0, 1) := by decide +kernel
theorem d_Mod_use_29 : decode b_Mod_use 29 = .ok (.getfield 13, 3) := by decide +kernel
theorem d_Mod_use_32 : decode b_Mod_use 32 = .ok (.iload 4, 2) := by decide +kernel
theorem d_Mod_use_34 : decode b_Mod_use 34 = .ok (.iconst 1, 1) := by decide +kernel
theorem d_Mod_use_35 : decode b_Mod_use 35 = .ok (.isub, 1) := by decide +kernel
theorem d_Mod_use_36 : decode b_Mod_use 36 = .ok (.iaload, 1) := by decide +kernel
theorem d_Mod_use_37 : decode b_Mod_use 37 = .ok (.iastore, 1) := by decide +kernel
theorem d_Mod_use_38 : decode b_Mod_use 38 = .ok (.aload_n 0, 1) := by decide +kernel
theorem d_Mod_use_39 : decode b_Mod_use 39 = .ok (.getfield 16, 3) := by decide +kernel
theorem d_Mod_use_42 : decode b_Mod_use 42 = .ok (.iload 4, 2) := by decide +kernel
theorem d_Mod_use_44 : decode b_Mod_use 44 = .ok (.aload_n 0, 1) := by decide +kernel
theorem d_Mod_use_45 : decode b_Mod_use 45 = .ok (.getfield 16, 3) := by decide +kernel
theorem d_Mod_use_48 : decode b_Mod_use 48 = .ok (.iload 4, 2) := by decide +kernel
theorem d_Mod_use_50 : decode b_Mod_use 50 = .ok (.iconst 1, 1) := by decide +kernel
theorem d_Mod_use_51 : decode b_Mod_use 51 = .ok (.isub, 1) := by decide +kernel
theorem d_Mod_use_52 : decode b_Mod_use 52 = .ok (.baload, 1) := by decide +kernel
theorem d_Mod_use_53 : decode b_Mod_use 53 = .ok (.bastore, 1) := by decide +kernel
theorem d_Mod_use_54 : decode b_Mod_use 54 = .ok (.iinc 4 (-1), 3) := by decide +kernel
theorem d_Mod_use_57 : decode b_Mod_use 57 = .ok (.goto (-40), 3) := by decide +kernel
theorem d_Mod_use_60 : decode b_Mod_use 60 = .ok (.aload_n 0, 1) := by decide +kernel
theorem d_Mod_use_61 : decode b_Mod_use 61 = .ok (.getfield 13, 3) := by decide +kernel
theorem d_Mod_use_64 : decode b_Mod_use 64 = .ok (.iconst 0, 1) := by decide +kernel
theorem d_Mod_use_65 : decode b_Mod_use 65 = .ok (.iload_n 2, 1) := by decide +kernel
theorem d_Mod_use_66 : decode b_Mod_use 66 = .ok (.iastore, 1) := by decide +kernel
theorem d_Mod_use_67 : decode b_Mod_use 67 = .ok (.aload_n 0, 1) := by decide +kernel
theorem d_Mod_use_68 : decode b_Mod_use 68 = .ok (.getfield 16, 3) := by decide +kernel
theorem d_Mod_use_71 : decode b_Mod_use 71 = .ok (.iconst 0, 1) := by decide +kernel
theorem d_Mod_use_72 : decode b_Mod_use 72 = .ok (.iload_n 3, 1) := by decide +kernel
theorem d_Mod_use_73 : decode b_Mod_use 73 = .ok (.bastore, 1) := by decide +kernel
theorem d_Mod_use_74 : decode b_Mod_use 74 = .ok (.return_, 1) := by decide +kernel
theorem d_Mod_wayTo_0 : decode b_Mod_wayTo 0 = .ok (.iload_n 2, 1) := by decide +kernel
theorem d_Mod_wayTo_1 : decode b_Mod_wayTo 1 = .ok (.aload_n 0, 1) := by decide +kernel
theorem d_Mod_wayTo_2 : decode b_Mod_wayTo 2 = .ok (.getfield 41, 3) := by decide +kernel
theorem d_Mod_wayTo_5 : decode b_Mod_wayTo 5 = .ok (.iload_n 1, 1) := by decide +kernel
theorem d_Mod_wayTo_6 : decode b_Mod_wayTo 6 = .ok (.iaload, 1) := by decide +kernel
theorem d_Mod_wayTo_7 : decode b_Mod_wayTo 7 = .ok (.isub, 1) := by decide +kernel
theorem d_Mod_wayTo_8 : decode b_Mod_wayTo 8 = .ok (.istore_n 3, 1) := by decide +kernel
theorem d_Mod_wayTo_9 : decode b_Mod_wayTo 9 = .ok (.iload_n 3, 1) := by decide +kernel
theorem d_Mod_wayTo_10 : decode b_Mod_wayTo 10 = .ok (.iconst 1, 1) := by decide +kernel
theorem d_Mod_wayTo_11 : decode b_Mod_wayTo 11 = .ok (.if_icmp .eq 8, 3) := by decide +kernel
theorem d_Mod_wayTo_14 : decode b_Mod_wayTo 14 = .ok (.iload_n 3, 1) := by decide +kernel
theorem d_Mod_wayTo_15 : decode b_Mod_wayTo 15 = .ok (.iconst 2, 1) := by decide +kernel
theorem d_Mod_wayTo_16 : decode b_Mod_wayTo 16 = .ok (.if_icmp .ne 17, 3) := by decide +kernel
theorem d_Mod_wayTo_19 : decode b_Mod_wayTo 19 = .ok (.aload_n 0, 1) := by decide +kernel
theorem d_Mod_wayTo_20 : decode b_Mod_wayTo 20 = .ok (.getfield 44, 3) := by decide +kernel
theorem d_Mod_wayTo_23 : decode b_Mod_wayTo 23 = .ok (.iload_n 1, 1) := by decide +kernel
theorem d_Mod_wayTo_24 : decode b_Mod_wayTo 24 = .ok (.iaload, 1) := by decide +kernel
theorem d_Mod_wayTo_25 : decode b_Mod_wayTo 25 = .ok (.iconst (-1), 1) := by decide +kernel
theorem d_Mod_wayTo_26 : decode b_Mod_wayTo 26 = .ok (.if_icmp .eq 7, 3) := by decide +kernel
theorem d_Mod_wayTo_29 : decode b_Mod_wayTo 29 = .ok (.iconst 1, 1) := by decide +kernel
theorem d_Mod_wayTo_30 : decode b_Mod_wayTo 30 = .ok (.goto 29, 3) := by decide +kernel
theorem d_Mod_wayTo_33 : decode b_Mod_wayTo 33 = .ok (.iload_n 3, 1) := by decide +kernel
theorem d_Mod_wayTo_34 : decode b_Mod_wayTo 34 = .ok (.iconst (-1), 1) := by decide +kernel
theorem d_Mod_wayTo_35 : decode b_Mod_wayTo 35 = .ok (.if_icmp .eq 9, 3) := by decide +kernel
theorem d_Mod_wayTo_38 : decode b_Mod_wayTo 38 = .ok (.iload_n 3, 1) := by decide +kernel
theorem d_Mod_wayTo_39 : decode b_Mod_wayTo 39 = .ok (.bipush (-2), 2) := by decide +kernel
theorem d_Mod_wayTo_41 : decode b_Mod_wayTo 41 = .ok (.if_icmp .ne 17, 3) := by decide +kernel
theorem d_Mod_wayTo_44 : decode b_Mod_wayTo 44 = .ok (.aload_n 0, 1) := by decide +kernel
theorem d_Mod_wayTo_45 : decode b_Mod_wayTo 45 = .ok (.getfield 44, 3) := by decide +kernel
theorem d_Mod_wayTo_48 : decode b_Mod_wayTo 48 = .ok (.iload_n 1, 1) := by decide +kernel
theorem d_Mod_wayTo_49 : decode b_Mod_wayTo 49 = .ok (.iaload, 1) := by decide +kernel
theorem d_Mod_wayTo_50 : decode b_Mod_wayTo 50 = .ok (.iconst 1, 1) := by decide +kernel
theorem d_Mod_wayTo_51 : decode b_Mod_wayTo 51 = .ok (.if_icmp .eq 7, 3) := by decide +kernel
theorem d_Mod_wayTo_54 : decode b_Mod_wayTo 54 = .ok (.iconst (-1), 1) := by decide +kernel
theorem d_Mod_wayTo_55 : decode b_Mod_wayTo 55 = .ok (.goto 4, 3) := by decide +kernel
theorem d_Mod_wayTo_58 : decode b_Mod_wayTo 58 = .ok (.iconst 0, 1) := by decide +kernel
theorem d_Mod_wayTo_59 : decode b_Mod_wayTo 59 = .ok (.ireturn, 1) := by decide +kernel
theorem d_Mod_within_0 : decode b_Mod_within 0 = .ok (.iload_n 0, 1) := by decide +kernel
theorem d_Mod_within_1 : decode b_Mod_within 1 = .ok (.iload_n 1, 1) := by decide +kernel
theorem d_Mod_within_2 : decode b_Mod_within 2 = .ok (.if_icmp .lt 12, 3) := by decide +kernel
theorem d_Mod_within_5 : decode b_Mod_within 5 = .ok (.iload_n 0, 1) := by decide +kernel
theorem d_Mod_within_6 : decode b_Mod_within 6 = .ok (.iload_n 2, 1) := by decide +kernel
theorem d_Mod_within_7 : decode b_Mod_within 7 = .ok (.if_icmp .gt 7, 3) := by decide +kernel
theorem d_Mod_within_10 : decode b_Mod_within 10 = .ok (.iconst 1, 1) := by decide +kernel
theorem d_Mod_within_11 : decode b_Mod_within 11 = .ok (.goto 4, 3) := by decide +kernel
theorem d_Mod_within_14 : decode b_Mod_within 14 = .ok (.iconst 0, 1) := by decide +kernel
theorem d_Mod_within_15 : decode b_Mod_within 15 = .ok (.ireturn, 1) := by decide +kernel

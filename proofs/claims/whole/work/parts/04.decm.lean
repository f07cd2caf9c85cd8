theorem d_M_init_0 : decode c_M_init 0 = .ok (.aload_n 0, 1) := by decide +kernel
theorem d_M_init_1 : decode c_M_init 1 = .ok (.invokespecial 1, 3) := by decide +kernel
theorem d_M_init_4 : decode c_M_init 4 = .ok (.aload_n 0, 1) := by decide +kernel
theorem d_M_init_5 : decode c_M_init 5 = .ok (.bipush 48, 2) := by decide +kernel
theorem d_M_init_7 : decode c_M_init 7 = .ok (.newarray .int, 2) := by decide +kernel
theorem d_M_init_9 : decode c_M_init 9 = .ok (.dup, 1) := by decide +kernel
theorem d_M_init_10 : decode c_M_init 10 = .ok (.iconst 0, 1) := by decide +kernel
theorem d_M_init_11 : decode c_M_init 11 = .ok (.bipush 115, 2) := by decide +kernel
theorem d_M_init_13 : decode c_M_init 13 = .ok (.iastore, 1) := by decide +kernel
theorem d_M_init_14 : decode c_M_init 14 = .ok (.dup, 1) := by decide +kernel
theorem d_M_init_15 : decode c_M_init 15 = .ok (.iconst 1, 1) := by decide +kernel
theorem d_M_init_16 : decode c_M_init 16 = .ok (.bipush 116, 2) := by decide +kernel
theorem d_M_init_18 : decode c_M_init 18 = .ok (.iastore, 1) := by decide +kernel
theorem d_M_init_19 : decode c_M_init 19 = .ok (.dup, 1) := by decide +kernel
theorem d_M_init_20 : decode c_M_init 20 = .ok (.iconst 2, 1) := by decide +kernel
theorem d_M_init_21 : decode c_M_init 21 = .ok (.bipush 97, 2) := by decide +kernel
theorem d_M_init_23 : decode c_M_init 23 = .ok (.iastore, 1) := by decide +kernel
theorem d_M_init_24 : decode c_M_init 24 = .ok (.dup, 1) := by decide +kernel
theorem d_M_init_25 : decode c_M_init 25 = .ok (.iconst 3, 1) := by decide +kernel
theorem d_M_init_26 : decode c_M_init 26 = .ok (.bipush 116, 2) := by decide +kernel
theorem d_M_init_28 : decode c_M_init 28 = .ok (.iastore, 1) := by decide +kernel
theorem d_M_init_29 : decode c_M_init 29 = .ok (.dup, 1) := by decide +kernel
theorem d_M_init_30 : decode c_M_init 30 = .ok (.iconst 4, 1) := by decide +kernel
theorem d_M_init_31 : decode c_M_init 31 = .ok (.bipush 101, 2) := by decide +kernel
theorem d_M_init_33 : decode c_M_init 33 = .ok (.iastore, 1) := by decide +kernel
theorem d_M_init_34 : decode c_M_init 34 = .ok (.dup, 1) := by decide +kernel
theorem d_M_init_35 : decode c_M_init 35 = .ok (.iconst 5, 1) := by decide +kernel
theorem d_M_init_36 : decode c_M_init 36 = .ok (.iconst 0, 1) := by decide +kernel
theorem d_M_init_37 : decode c_M_init 37 = .ok (.iastore, 1) := by decide +kernel
theorem d_M_init_38 : decode c_M_init 38 = .ok (.dup, 1) := by decide +kernel
theorem d_M_init_39 : decode c_M_init 39 = .ok (.bipush 6, 2) := by decide +kernel
theorem d_M_init_41 : decode c_M_init 41 = .ok (.bipush 97, 2) := by decide +kernel
theorem d_M_init_43 : decode c_M_init 43 = .ok (.iastore, 1) := by decide +kernel
theorem d_M_init_44 : decode c_M_init 44 = .ok (.dup, 1) := by decide +kernel
theorem d_M_init_45 : decode c_M_init 45 = .ok (.bipush 7, 2) := by decide +kernel
theorem d_M_init_47 : decode c_M_init 47 = .ok (.bipush 115, 2) := by decide +kernel
theorem d_M_init_49 : decode c_M_init 49 = .ok (.iastore, 1) := by decide +kernel
theorem d_M_init_50 : decode c_M_init 50 = .ok (.dup, 1) := by decide +kernel
theorem d_M_init_51 : decode c_M_init 51 = .ok (.bipush 8, 2) := by decide +kernel
theorem d_M_init_53 : decode c_M_init 53 = .ok (.bipush 107, 2) := by decide +kernel
theorem d_M_init_55 : decode c_M_init 55 = .ok (.iastore, 1) := by decide +kernel
theorem d_M_init_56 : decode c_M_init 56 = .ok (.dup, 1) := by decide +kernel
theorem d_M_init_57 : decode c_M_init 57 = .ok (.bipush 9, 2) := by decide +kernel
theorem d_M_init_59 : decode c_M_init 59 = .ok (.iconst 0, 1) := by decide +kernel
theorem d_M_init_60 : decode c_M_init 60 = .ok (.iastore, 1) := by decide +kernel
theorem d_M_init_61 : decode c_M_init 61 = .ok (.dup, 1) := by decide +kernel
theorem d_M_init_62 : decode c_M_init 62 = .ok (.bipush 10, 2) := by decide +kernel
theorem d_M_init_64 : decode c_M_init 64 = .ok (.bipush 109, 2) := by decide +kernel
theorem d_M_init_66 : decode c_M_init 66 = .ok (.iastore, 1) := by decide +kernel
theorem d_M_init_67 : decode c_M_init 67 = .ok (.dup, 1) := by decide +kernel
theorem d_M_init_68 : decode c_M_init 68 = .ok (.bipush 11, 2) := by decide +kernel
theorem d_M_init_70 : decode c_M_init 70 = .ok (.bipush 101, 2) := by decide +kernel
theorem d_M_init_72 : decode c_M_init 72 = .ok (.iastore, 1) := by decide +kernel
theorem d_M_init_73 : decode c_M_init 73 = .ok (.dup, 1) := by decide +kernel
theorem d_M_init_74 : decode c_M_init 74 = .ok (.bipush 12, 2) := by decide +kernel
theorem d_M_init_76 : decode c_M_init 76 = .ok (.bipush 115, 2) := by decide +kernel
theorem d_M_init_78 : decode c_M_init 78 = .ok (.iastore, 1) := by decide +kernel
theorem d_M_init_79 : decode c_M_init 79 = .ok (.dup, 1) := by decide +kernel
theorem d_M_init_80 : decode c_M_init 80 = .ok (.bipush 13, 2) := by decide +kernel
theorem d_M_init_82 : decode c_M_init 82 = .ok (.bipush 115, 2) := by decide +kernel
theorem d_M_init_84 : decode c_M_init 84 = .ok (.iastore, 1) := by decide +kernel
theorem d_M_init_85 : decode c_M_init 85 = .ok (.dup, 1) := by decide +kernel
theorem d_M_init_86 : decode c_M_init 86 = .ok (.bipush 14, 2) := by decide +kernel
theorem d_M_init_88 : decode c_M_init 88 = .ok (.bipush 97, 2) := by decide +kernel
theorem d_M_init_90 : decode c_M_init 90 = .ok (.iastore, 1) := by decide +kernel
theorem d_M_init_91 : decode c_M_init 91 = .ok (.dup, 1) := by decide +kernel
theorem d_M_init_92 : decode c_M_init 92 = .ok (.bipush 15, 2) := by decide +kernel
theorem d_M_init_94 : decode c_M_init 94 = .ok (.bipush 103, 2) := by decide +kernel
theorem d_M_init_96 : decode c_M_init 96 = .ok (.iastore, 1) := by decide +kernel
theorem d_M_init_97 : decode c_M_init 97 = .ok (.dup, 1) := by decide +kernel
theorem d_M_init_98 : decode c_M_init 98 = .ok (.bipush 16, 2) := by decide +kernel
theorem d_M_init_100 : decode c_M_init 100 = .ok (.bipush 101, 2) := by decide +kernel
theorem d_M_init_102 : decode c_M_init 102 = .ok (.iastore, 1) := by decide +kernel
theorem d_M_init_103 : decode c_M_init 103 = .ok (.dup, 1) := by decide +kernel
theorem d_M_init_104 : decode c_M_init 104 = .ok (.bipush 17, 2) := by decide +kernel
theorem d_M_init_106 : decode c_M_init 106 = .ok (.iconst 0, 1) := by decide +kernel
theorem d_M_init_107 : decode c_M_init 107 = .ok (.iastore, 1) := by decide +kernel
theorem d_M_init_108 : decode c_M_init 108 = .ok (.dup, 1) := by decide +kernel
theorem d_M_init_109 : decode c_M_init 109 = .ok (.bipush 18, 2) := by decide +kernel
theorem d_M_init_111 : decode c_M_init 111 = .ok (.bipush 111, 2) := by decide +kernel
theorem d_M_init_113 : decode c_M_init 113 = .ok (.iastore, 1) := by decide +kernel
theorem d_M_init_114 : decode c_M_init 114 = .ok (.dup, 1) := by decide +kernel
theorem d_M_init_115 : decode c_M_init 115 = .ok (.bipush 19, 2) := by decide +kernel
theorem d_M_init_117 : decode c_M_init 117 = .ok (.bipush 110, 2) := by decide +kernel
theorem d_M_init_119 : decode c_M_init 119 = .ok (.iastore, 1) := by decide +kernel
theorem d_M_init_120 : decode c_M_init 120 = .ok (.dup, 1) := by decide +kernel
theorem d_M_init_121 : decode c_M_init 121 = .ok (.bipush 20, 2) := by decide +kernel
theorem d_M_init_123 : decode c_M_init 123 = .ok (.iconst 0, 1) := by decide +kernel
theorem d_M_init_124 : decode c_M_init 124 = .ok (.iastore, 1) := by decide +kernel
theorem d_M_init_125 : decode c_M_init 125 = .ok (.dup, 1) := by decide +kernel
theorem d_M_init_126 : decode c_M_init 126 = .ok (.bipush 21, 2) := by decide +kernel
theorem d_M_init_128 : decode c_M_init 128 = .ok (.bipush 110, 2) := by decide +kernel
theorem d_M_init_130 : decode c_M_init 130 = .ok (.iastore, 1) := by decide +kernel
theorem d_M_init_131 : decode c_M_init 131 = .ok (.dup, 1) := by decide +kernel
theorem d_M_init_132 : decode c_M_init 132 = .ok (.bipush 22, 2) := by decide +kernel
theorem d_M_init_134 : decode c_M_init 134 = .ok (.bipush 101, 2) := by decide +kernel
theorem d_M_init_136 : decode c_M_init 136 = .ok (.iastore, 1) := by decide +kernel
theorem d_M_init_137 : decode c_M_init 137 = .ok (.dup, 1) := by decide +kernel
theorem d_M_init_138 : decode c_M_init 138 = .ok (.bipush 23, 2) := by decide +kernel
theorem d_M_init_140 : decode c_M_init 140 = .ok (.bipush 118, 2) := by decide +kernel
theorem d_M_init_142 : decode c_M_init 142 = .ok (.iastore, 1) := by decide +kernel
theorem d_M_init_143 : decode c_M_init 143 = .ok (.dup, 1) := by decide +kernel
theorem d_M_init_144 : decode c_M_init 144 = .ok (.bipush 24, 2) := by decide +kernel
theorem d_M_init_146 : decode c_M_init 146 = .ok (.bipush 101, 2) := by decide +kernel
theorem d_M_init_148 : decode c_M_init 148 = .ok (.iastore, 1) := by decide +kernel
theorem d_M_init_149 : decode c_M_init 149 = .ok (.dup, 1) := by decide +kernel
theorem d_M_init_150 : decode c_M_init 150 = .ok (.bipush 25, 2) := by decide +kernel
theorem d_M_init_152 : decode c_M_init 152 = .ok (.bipush 114, 2) := by decide +kernel
theorem d_M_init_154 : decode c_M_init 154 = .ok (.iastore, 1) := by decide +kernel
theorem d_M_init_155 : decode c_M_init 155 = .ok (.dup, 1) := by decide +kernel
theorem d_M_init_156 : decode c_M_init 156 = .ok (.bipush 26, 2) := by decide +kernel
theorem d_M_init_158 : decode c_M_init 158 = .ok (.iconst 0, 1) := by decide +kernel
theorem d_M_init_159 : decode c_M_init 159 = .ok (.iastore, 1) := by decide +kernel
theorem d_M_init_160 : decode c_M_init 160 = .ok (.dup, 1) := by decide +kernel
theorem d_M_init_161 : decode c_M_init 161 = .ok (.bipush 27, 2) := by decide +kernel
theorem d_M_init_163 : decode c_M_init 163 = .ok (.bipush 102, 2) := by decide +kernel
theorem d_M_init_165 : decode c_M_init 165 = .ok (.iastore, 1) := by decide +kernel
theorem d_M_init_166 : decode c_M_init 166 = .ok (.dup, 1) := by decide +kernel
theorem d_M_init_167 : decode c_M_init 167 = .ok (.bipush 28, 2) := by decide +kernel
theorem d_M_init_169 : decode c_M_init 169 = .ok (.bipush 105, 2) := by decide +kernel
theorem d_M_init_171 : decode c_M_init 171 = .ok (.iastore, 1) := by decide +kernel
theorem d_M_init_172 : decode c_M_init 172 = .ok (.dup, 1) := by decide +kernel
theorem d_M_init_173 : decode c_M_init 173 = .ok (.bipush 29, 2) := by decide +kernel
theorem d_M_init_175 : decode c_M_init 175 = .ok (.bipush 114, 2) := by decide +kernel
theorem d_M_init_177 : decode c_M_init 177 = .ok (.iastore, 1) := by decide +kernel
theorem d_M_init_178 : decode c_M_init 178 = .ok (.dup, 1) := by decide +kernel
theorem d_M_init_179 : decode c_M_init 179 = .ok (.bipush 30, 2) := by decide +kernel
theorem d_M_init_181 : decode c_M_init 181 = .ok (.bipush 115, 2) := by decide +kernel
theorem d_M_init_183 : decode c_M_init 183 = .ok (.iastore, 1) := by decide +kernel
theorem d_M_init_184 : decode c_M_init 184 = .ok (.dup, 1) := by decide +kernel
theorem d_M_init_185 : decode c_M_init 185 = .ok (.bipush 31, 2) := by decide +kernel
theorem d_M_init_187 : decode c_M_init 187 = .ok (.bipush 116, 2) := by decide +kernel
theorem d_M_init_189 : decode c_M_init 189 = .ok (.iastore, 1) := by decide +kernel
theorem d_M_init_190 : decode c_M_init 190 = .ok (.dup, 1) := by decide +kernel
theorem d_M_init_191 : decode c_M_init 191 = .ok (.bipush 32, 2) := by decide +kernel
theorem d_M_init_193 : decode c_M_init 193 = .ok (.iconst 0, 1) := by decide +kernel
theorem d_M_init_194 : decode c_M_init 194 = .ok (.iastore, 1) := by decide +kernel
theorem d_M_init_195 : decode c_M_init 195 = .ok (.dup, 1) := by decide +kernel
theorem d_M_init_196 : decode c_M_init 196 = .ok (.bipush 33, 2) := by decide +kernel
theorem d_M_init_198 : decode c_M_init 198 = .ok (.bipush 115, 2) := by decide +kernel
theorem d_M_init_200 : decode c_M_init 200 = .ok (.iastore, 1) := by decide +kernel
theorem d_M_init_201 : decode c_M_init 201 = .ok (.dup, 1) := by decide +kernel
theorem d_M_init_202 : decode c_M_init 202 = .ok (.bipush 34, 2) := by decide +kernel
theorem d_M_init_204 : decode c_M_init 204 = .ok (.bipush 101, 2) := by decide +kernel
theorem d_M_init_206 : decode c_M_init 206 = .ok (.iastore, 1) := by decide +kernel
theorem d_M_init_207 : decode c_M_init 207 = .ok (.dup, 1) := by decide +kernel
theorem d_M_init_208 : decode c_M_init 208 = .ok (.bipush 35, 2) := by decide +kernel
theorem d_M_init_210 : decode c_M_init 210 = .ok (.bipush 110, 2) := by decide +kernel
theorem d_M_init_212 : decode c_M_init 212 = .ok (.iastore, 1) := by decide +kernel
theorem d_M_init_213 : decode c_M_init 213 = .ok (.dup, 1) := by decide +kernel
theorem d_M_init_214 : decode c_M_init 214 = .ok (.bipush 36, 2) := by decide +kernel
theorem d_M_init_216 : decode c_M_init 216 = .ok (.bipush 100, 2) := by decide +kernel
theorem d_M_init_218 : decode c_M_init 218 = .ok (.iastore, 1) := by decide +kernel
theorem d_M_init_219 : decode c_M_init 219 = .ok (.dup, 1) := by decide +kernel
theorem d_M_init_220 : decode c_M_init 220 = .ok (.bipush 37, 2) := by decide +kernel
theorem d_M_init_222 : decode c_M_init 222 = .ok (.iconst 0, 1) := by decide +kernel
theorem d_M_init_223 : decode c_M_init 223 = .ok (.iastore, 1) := by decide +kernel
theorem d_M_init_224 : decode c_M_init 224 = .ok (.dup, 1) := by decide +kernel
theorem d_M_init_225 : decode c_M_init 225 = .ok (.bipush 38, 2) := by decide +kernel
theorem d_M_init_227 : decode c_M_init 227 = .ok (.bipush 116, 2) := by decide +kernel
theorem d_M_init_229 : decode c_M_init 229 = .ok (.iastore, 1) := by decide +kernel
theorem d_M_init_230 : decode c_M_init 230 = .ok (.dup, 1) := by decide +kernel
theorem d_M_init_231 : decode c_M_init 231 = .ok (.bipush 39, 2) := by decide +kernel
theorem d_M_init_233 : decode c_M_init 233 = .ok (.bipush 97, 2) := by decide +kernel
theorem d_M_init_235 : decode c_M_init 235 = .ok (.iastore, 1) := by decide +kernel
theorem d_M_init_236 : decode c_M_init 236 = .ok (.dup, 1) := by decide +kernel
theorem d_M_init_237 : decode c_M_init 237 = .ok (.bipush 40, 2) := by decide +kernel
theorem d_M_init_239 : decode c_M_init 239 = .ok (.bipush 107, 2) := by decide +kernel
theorem d_M_init_241 : decode c_M_init 241 = .ok (.iastore, 1) := by decide +kernel
theorem d_M_init_242 : decode c_M_init 242 = .ok (.dup, 1) := by decide +kernel
theorem d_M_init_243 : decode c_M_init 243 = .ok (.bipush 41, 2) := by decide +kernel
theorem d_M_init_245 : decode c_M_init 245 = .ok (.bipush 101, 2) := by decide +kernel
theorem d_M_init_247 : decode c_M_init 247 = .ok (.iastore, 1) := by decide +kernel
theorem d_M_init_248 : decode c_M_init 248 = .ok (.dup, 1) := by decide +kernel
theorem d_M_init_249 : decode c_M_init 249 = .ok (.bipush 42, 2) := by decide +kernel
theorem d_M_init_251 : decode c_M_init 251 = .ok (.iconst 0, 1) := by decide +kernel
theorem d_M_init_252 : decode c_M_init 252 = .ok (.iastore, 1) := by decide +kernel
theorem d_M_init_253 : decode c_M_init 253 = .ok (.dup, 1) := by decide +kernel
theorem d_M_init_254 : decode c_M_init 254 = .ok (.bipush 43, 2) := by decide +kernel
theorem d_M_init_256 : decode c_M_init 256 = .ok (.bipush 107, 2) := by decide +kernel
theorem d_M_init_258 : decode c_M_init 258 = .ok (.iastore, 1) := by decide +kernel
theorem d_M_init_259 : decode c_M_init 259 = .ok (.dup, 1) := by decide +kernel
theorem d_M_init_260 : decode c_M_init 260 = .ok (.bipush 44, 2) := by decide +kernel
theorem d_M_init_262 : decode c_M_init 262 = .ok (.bipush 101, 2) := by decide +kernel
theorem d_M_init_264 : decode c_M_init 264 = .ok (.iastore, 1) := by decide +kernel
theorem d_M_init_265 : decode c_M_init 265 = .ok (.dup, 1) := by decide +kernel
theorem d_M_init_266 : decode c_M_init 266 = .ok (.bipush 45, 2) := by decide +kernel
theorem d_M_init_268 : decode c_M_init 268 = .ok (.bipush 101, 2) := by decide +kernel
theorem d_M_init_270 : decode c_M_init 270 = .ok (.iastore, 1) := by decide +kernel
theorem d_M_init_271 : decode c_M_init 271 = .ok (.dup, 1) := by decide +kernel
theorem d_M_init_272 : decode c_M_init 272 = .ok (.bipush 46, 2) := by decide +kernel
theorem d_M_init_274 : decode c_M_init 274 = .ok (.bipush 112, 2) := by decide +kernel
theorem d_M_init_276 : decode c_M_init 276 = .ok (.iastore, 1) := by decide +kernel
theorem d_M_init_277 : decode c_M_init 277 = .ok (.dup, 1) := by decide +kernel
theorem d_M_init_278 : decode c_M_init 278 = .ok (.bipush 47, 2) := by decide +kernel
theorem d_M_init_280 : decode c_M_init 280 = .ok (.iconst 0, 1) := by decide +kernel
theorem d_M_init_281 : decode c_M_init 281 = .ok (.iastore, 1) := by decide +kernel
theorem d_M_init_282 : decode c_M_init 282 = .ok (.putfield 7, 3) := by decide +kernel
theorem d_M_init_285 : decode c_M_init 285 = .ok (.aload_n 0, 1) := by decide +kernel
theorem d_M_init_286 : decode c_M_init 286 = .ok (.sipush 4200, 3) := by decide +kernel
theorem d_M_init_289 : decode c_M_init 289 = .ok (.newarray .int, 2) := by decide +kernel
theorem d_M_init_291 : decode c_M_init 291 = .ok (.putfield 13, 3) := by decide +kernel
theorem d_M_init_294 : decode c_M_init 294 = .ok (.aload_n 0, 1) := by decide +kernel
theorem d_M_init_295 : decode c_M_init 295 = .ok (.sipush 8192, 3) := by decide +kernel
theorem d_M_init_298 : decode c_M_init 298 = .ok (.newarray .int, 2) := by decide +kernel
theorem d_M_init_300 : decode c_M_init 300 = .ok (.putfield 16, 3) := by decide +kernel
theorem d_M_init_303 : decode c_M_init 303 = .ok (.aload_n 0, 1) := by decide +kernel
theorem d_M_init_304 : decode c_M_init 304 = .ok (.sipush 4200, 3) := by decide +kernel
theorem d_M_init_307 : decode c_M_init 307 = .ok (.newarray .int, 2) := by decide +kernel
theorem d_M_init_309 : decode c_M_init 309 = .ok (.putfield 19, 3) := by decide +kernel
theorem d_M_init_312 : decode c_M_init 312 = .ok (.aload_n 0, 1) := by decide +kernel
theorem d_M_init_313 : decode c_M_init 313 = .ok (.bipush 40, 2) := by decide +kernel
theorem d_M_init_315 : decode c_M_init 315 = .ok (.newarray .int, 2) := by decide +kernel
theorem d_M_init_317 : decode c_M_init 317 = .ok (.putfield 22, 3) := by decide +kernel
theorem d_M_init_320 : decode c_M_init 320 = .ok (.aload_n 0, 1) := by decide +kernel
theorem d_M_init_321 : decode c_M_init 321 = .ok (.bipush 40, 2) := by decide +kernel
theorem d_M_init_323 : decode c_M_init 323 = .ok (.newarray .int, 2) := by decide +kernel
theorem d_M_init_325 : decode c_M_init 325 = .ok (.putfield 25, 3) := by decide +kernel
theorem d_M_init_328 : decode c_M_init 328 = .ok (.aload_n 0, 1) := by decide +kernel
theorem d_M_init_329 : decode c_M_init 329 = .ok (.bipush 40, 2) := by decide +kernel
theorem d_M_init_331 : decode c_M_init 331 = .ok (.newarray .int, 2) := by decide +kernel
theorem d_M_init_333 : decode c_M_init 333 = .ok (.putfield 28, 3) := by decide +kernel
theorem d_M_init_336 : decode c_M_init 336 = .ok (.aload_n 0, 1) := by decide +kernel
theorem d_M_init_337 : decode c_M_init 337 = .ok (.bipush 40, 2) := by decide +kernel
theorem d_M_init_339 : decode c_M_init 339 = .ok (.newarray .int, 2) := by decide +kernel
theorem d_M_init_341 : decode c_M_init 341 = .ok (.putfield 31, 3) := by decide +kernel
theorem d_M_init_344 : decode c_M_init 344 = .ok (.aload_n 0, 1) := by decide +kernel
theorem d_M_init_345 : decode c_M_init 345 = .ok (.iconst 3, 1) := by decide +kernel
theorem d_M_init_346 : decode c_M_init 346 = .ok (.newarray .int, 2) := by decide +kernel
theorem d_M_init_348 : decode c_M_init 348 = .ok (.putfield 34, 3) := by decide +kernel
theorem d_M_init_351 : decode c_M_init 351 = .ok (.aload_n 0, 1) := by decide +kernel
theorem d_M_init_352 : decode c_M_init 352 = .ok (.bipush 48, 2) := by decide +kernel
theorem d_M_init_354 : decode c_M_init 354 = .ok (.newarray .int, 2) := by decide +kernel
theorem d_M_init_356 : decode c_M_init 356 = .ok (.putfield 37, 3) := by decide +kernel
theorem d_M_init_359 : decode c_M_init 359 = .ok (.aload_n 0, 1) := by decide +kernel
theorem d_M_init_360 : decode c_M_init 360 = .ok (.sipush 384, 3) := by decide +kernel
theorem d_M_init_363 : decode c_M_init 363 = .ok (.newarray .int, 2) := by decide +kernel
theorem d_M_init_365 : decode c_M_init 365 = .ok (.putfield 40, 3) := by decide +kernel
theorem d_M_init_368 : decode c_M_init 368 = .ok (.aload_n 0, 1) := by decide +kernel
theorem d_M_init_369 : decode c_M_init 369 = .ok (.sipush 1536, 3) := by decide +kernel
theorem d_M_init_372 : decode c_M_init 372 = .ok (.newarray .int, 2) := by decide +kernel
theorem d_M_init_374 : decode c_M_init 374 = .ok (.putfield 43, 3) := by decide +kernel
theorem d_M_init_377 : decode c_M_init 377 = .ok (.aload_n 0, 1) := by decide +kernel
theorem d_M_init_378 : decode c_M_init 378 = .ok (.bipush 16, 2) := by decide +kernel
theorem d_M_init_380 : decode c_M_init 380 = .ok (.newarray .int, 2) := by decide +kernel
theorem d_M_init_382 : decode c_M_init 382 = .ok (.putfield 46, 3) := by decide +kernel
theorem d_M_init_385 : decode c_M_init 385 = .ok (.aload_n 0, 1) := by decide +kernel
theorem d_M_init_386 : decode c_M_init 386 = .ok (.bipush 16, 2) := by decide +kernel
theorem d_M_init_388 : decode c_M_init 388 = .ok (.newarray .int, 2) := by decide +kernel
theorem d_M_init_390 : decode c_M_init 390 = .ok (.putfield 49, 3) := by decide +kernel
theorem d_M_init_393 : decode c_M_init 393 = .ok (.aload_n 0, 1) := by decide +kernel
theorem d_M_init_394 : decode c_M_init 394 = .ok (.invokevirtual 52, 3) := by decide +kernel
theorem d_M_init_397 : decode c_M_init 397 = .ok (.return_, 1) := by decide +kernel
theorem d_M_forget_0 : decode c_M_forget 0 = .ok (.aload_n 0, 1) := by decide +kernel
theorem d_M_forget_1 : decode c_M_forget 1 = .ok (.iconst 0, 1) := by decide +kernel
theorem d_M_forget_2 : decode c_M_forget 2 = .ok (.putfield 115, 3) := by decide +kernel
theorem d_M_forget_5 : decode c_M_forget 5 = .ok (.aload_n 0, 1) := by decide +kernel
theorem d_M_forget_6 : decode c_M_forget 6 = .ok (.iconst 0, 1) := by decide +kernel
theorem d_M_forget_7 : decode c_M_forget 7 = .ok (.putfield 151, 3) := by decide +kernel
theorem d_M_forget_10 : decode c_M_forget 10 = .ok (.aload_n 0, 1) := by decide +kernel
theorem d_M_forget_11 : decode c_M_forget 11 = .ok (.iconst 0, 1) := by decide +kernel
theorem d_M_forget_12 : decode c_M_forget 12 = .ok (.putfield 154, 3) := by decide +kernel
theorem d_M_forget_15 : decode c_M_forget 15 = .ok (.aload_n 0, 1) := by decide +kernel
theorem d_M_forget_16 : decode c_M_forget 16 = .ok (.iconst 0, 1) := by decide +kernel
theorem d_M_forget_17 : decode c_M_forget 17 = .ok (.putfield 166, 3) := by decide +kernel
theorem d_M_forget_20 : decode c_M_forget 20 = .ok (.iconst 0, 1) := by decide +kernel
theorem d_M_forget_21 : decode c_M_forget 21 = .ok (.istore_n 1, 1) := by decide +kernel
theorem d_M_forget_22 : decode c_M_forget 22 = .ok (.iload_n 1, 1) := by decide +kernel
theorem d_M_forget_23 : decode c_M_forget 23 = .ok (.iconst 3, 1) := by decide +kernel
theorem d_M_forget_24 : decode c_M_forget 24 = .ok (.if_icmp .ge 16, 3) := by decide +kernel
theorem d_M_forget_27 : decode c_M_forget 27 = .ok (.aload_n 0, 1) := by decide +kernel
theorem d_M_forget_28 : decode c_M_forget 28 = .ok (.getfield 34, 3) := by decide +kernel
theorem d_M_forget_31 : decode c_M_forget 31 = .ok (.iload_n 1, 1) := by decide +kernel
theorem d_M_forget_32 : decode c_M_forget 32 = .ok (.iconst 0, 1) := by decide +kernel
theorem d_M_forget_33 : decode c_M_forget 33 = .ok (.iastore, 1) := by decide +kernel
theorem d_M_forget_34 : decode c_M_forget 34 = .ok (.iinc 1 1, 3) := by decide +kernel
theorem d_M_forget_37 : decode c_M_forget 37 = .ok (.goto (-15), 3) := by decide +kernel
theorem d_M_forget_40 : decode c_M_forget 40 = .ok (.iconst 0, 1) := by decide +kernel
theorem d_M_forget_41 : decode c_M_forget 41 = .ok (.istore_n 1, 1) := by decide +kernel
theorem d_M_forget_42 : decode c_M_forget 42 = .ok (.iload_n 1, 1) := by decide +kernel
theorem d_M_forget_43 : decode c_M_forget 43 = .ok (.sipush 384, 3) := by decide +kernel
theorem d_M_forget_46 : decode c_M_forget 46 = .ok (.if_icmp .ge 16, 3) := by decide +kernel
theorem d_M_forget_49 : decode c_M_forget 49 = .ok (.aload_n 0, 1) := by decide +kernel
theorem d_M_forget_50 : decode c_M_forget 50 = .ok (.getfield 40, 3) := by decide +kernel
theorem d_M_forget_53 : decode c_M_forget 53 = .ok (.iload_n 1, 1) := by decide +kernel
theorem d_M_forget_54 : decode c_M_forget 54 = .ok (.iconst (-1), 1) := by decide +kernel
theorem d_M_forget_55 : decode c_M_forget 55 = .ok (.iastore, 1) := by decide +kernel
theorem d_M_forget_56 : decode c_M_forget 56 = .ok (.iinc 1 1, 3) := by decide +kernel
theorem d_M_forget_59 : decode c_M_forget 59 = .ok (.goto (-17), 3) := by decide +kernel
theorem d_M_forget_62 : decode c_M_forget 62 = .ok (.iconst 0, 1) := by decide +kernel
theorem d_M_forget_63 : decode c_M_forget 63 = .ok (.istore_n 1, 1) := by decide +kernel
theorem d_M_forget_64 : decode c_M_forget 64 = .ok (.iload_n 1, 1) := by decide +kernel
theorem d_M_forget_65 : decode c_M_forget 65 = .ok (.sipush 1536, 3) := by decide +kernel
theorem d_M_forget_68 : decode c_M_forget 68 = .ok (.if_icmp .ge 16, 3) := by decide +kernel
theorem d_M_forget_71 : decode c_M_forget 71 = .ok (.aload_n 0, 1) := by decide +kernel
theorem d_M_forget_72 : decode c_M_forget 72 = .ok (.getfield 43, 3) := by decide +kernel
theorem d_M_forget_75 : decode c_M_forget 75 = .ok (.iload_n 1, 1) := by decide +kernel
theorem d_M_forget_76 : decode c_M_forget 76 = .ok (.iconst (-1), 1) := by decide +kernel
theorem d_M_forget_77 : decode c_M_forget 77 = .ok (.iastore, 1) := by decide +kernel
theorem d_M_forget_78 : decode c_M_forget 78 = .ok (.iinc 1 1, 3) := by decide +kernel
theorem d_M_forget_81 : decode c_M_forget 81 = .ok (.goto (-17), 3) := by decide +kernel
theorem d_M_forget_84 : decode c_M_forget 84 = .ok (.return_, 1) := by decide +kernel
theorem d_M_thrown_0 : decode c_M_thrown 0 = .ok (.aload_n 0, 1) := by decide +kernel
theorem d_M_thrown_1 : decode c_M_thrown 1 = .ok (.getfield 55, 3) := by decide +kernel
theorem d_M_thrown_4 : decode c_M_thrown 4 = .ok (.ireturn, 1) := by decide +kernel
theorem d_M_feed_0 : decode c_M_feed 0 = .ok (.aload_n 0, 1) := by decide +kernel
theorem d_M_feed_1 : decode c_M_feed 1 = .ok (.iconst 0, 1) := by decide +kernel
theorem d_M_feed_2 : decode c_M_feed 2 = .ok (.putfield 55, 3) := by decide +kernel
theorem d_M_feed_5 : decode c_M_feed 5 = .ok (.aload_n 0, 1) := by decide +kernel
theorem d_M_feed_6 : decode c_M_feed 6 = .ok (.getfield 59, 3) := by decide +kernel
theorem d_M_feed_9 : decode c_M_feed 9 = .ok (.bipush 16, 2) := by decide +kernel
theorem d_M_feed_11 : decode c_M_feed 11 = .ok (.iadd, 1) := by decide +kernel
theorem d_M_feed_12 : decode c_M_feed 12 = .ok (.sipush 4096, 3) := by decide +kernel
theorem d_M_feed_15 : decode c_M_feed 15 = .ok (.if_icmp .le 9, 3) := by decide +kernel
theorem d_M_feed_18 : decode c_M_feed 18 = .ok (.aload_n 0, 1) := by decide +kernel
theorem d_M_feed_19 : decode c_M_feed 19 = .ok (.iconst 1, 1) := by decide +kernel
theorem d_M_feed_20 : decode c_M_feed 20 = .ok (.invokevirtual 62, 3) := by decide +kernel
theorem d_M_feed_23 : decode c_M_feed 23 = .ok (.ireturn, 1) := by decide +kernel
theorem d_M_feed_24 : decode c_M_feed 24 = .ok (.iconst 0, 1) := by decide +kernel
theorem d_M_feed_25 : decode c_M_feed 25 = .ok (.istore 5, 2) := by decide +kernel
theorem d_M_feed_27 : decode c_M_feed 27 = .ok (.iload 5, 2) := by decide +kernel
theorem d_M_feed_29 : decode c_M_feed 29 = .ok (.bipush 16, 2) := by decide +kernel
theorem d_M_feed_31 : decode c_M_feed 31 = .ok (.if_icmp .ge 74, 3) := by decide +kernel
theorem d_M_feed_34 : decode c_M_feed 34 = .ok (.iload 5, 2) := by decide +kernel
theorem d_M_feed_36 : decode c_M_feed 36 = .ok (.iconst 4, 1) := by decide +kernel
theorem d_M_feed_37 : decode c_M_feed 37 = .ok (.if_icmp .ge 7, 3) := by decide +kernel
theorem d_M_feed_40 : decode c_M_feed 40 = .ok (.iload_n 1, 1) := by decide +kernel
theorem d_M_feed_41 : decode c_M_feed 41 = .ok (.goto 27, 3) := by decide +kernel
theorem d_M_feed_44 : decode c_M_feed 44 = .ok (.iload 5, 2) := by decide +kernel
theorem d_M_feed_46 : decode c_M_feed 46 = .ok (.bipush 8, 2) := by decide +kernel
theorem d_M_feed_48 : decode c_M_feed 48 = .ok (.if_icmp .ge 7, 3) := by decide +kernel
theorem d_M_feed_51 : decode c_M_feed 51 = .ok (.iload_n 2, 1) := by decide +kernel
theorem d_M_feed_52 : decode c_M_feed 52 = .ok (.goto 16, 3) := by decide +kernel
theorem d_M_feed_55 : decode c_M_feed 55 = .ok (.iload 5, 2) := by decide +kernel
theorem d_M_feed_57 : decode c_M_feed 57 = .ok (.bipush 12, 2) := by decide +kernel
theorem d_M_feed_59 : decode c_M_feed 59 = .ok (.if_icmp .ge 7, 3) := by decide +kernel
theorem d_M_feed_62 : decode c_M_feed 62 = .ok (.iload_n 3, 1) := by decide +kernel
theorem d_M_feed_63 : decode c_M_feed 63 = .ok (.goto 5, 3) := by decide +kernel
theorem d_M_feed_66 : decode c_M_feed 66 = .ok (.iload 4, 2) := by decide +kernel
theorem d_M_feed_68 : decode c_M_feed 68 = .ok (.istore 6, 2) := by decide +kernel
theorem d_M_feed_70 : decode c_M_feed 70 = .ok (.aload_n 0, 1) := by decide +kernel
theorem d_M_feed_71 : decode c_M_feed 71 = .ok (.getfield 13, 3) := by decide +kernel
theorem d_M_feed_74 : decode c_M_feed 74 = .ok (.aload_n 0, 1) := by decide +kernel
theorem d_M_feed_75 : decode c_M_feed 75 = .ok (.getfield 59, 3) := by decide +kernel
theorem d_M_feed_78 : decode c_M_feed 78 = .ok (.iload 5, 2) := by decide +kernel
theorem d_M_feed_80 : decode c_M_feed 80 = .ok (.iadd, 1) := by decide +kernel
theorem d_M_feed_81 : decode c_M_feed 81 = .ok (.iload 6, 2) := by decide +kernel
theorem d_M_feed_83 : decode c_M_feed 83 = .ok (.bipush 24, 2) := by decide +kernel
theorem d_M_feed_85 : decode c_M_feed 85 = .ok (.bipush 8, 2) := by decide +kernel
theorem d_M_feed_87 : decode c_M_feed 87 = .ok (.iload 5, 2) := by decide +kernel
theorem d_M_feed_89 : decode c_M_feed 89 = .ok (.iconst 4, 1) := by decide +kernel
theorem d_M_feed_90 : decode c_M_feed 90 = .ok (.irem, 1) := by decide +kernel
theorem d_M_feed_91 : decode c_M_feed 91 = .ok (.imul, 1) := by decide +kernel
theorem d_M_feed_92 : decode c_M_feed 92 = .ok (.isub, 1) := by decide +kernel
theorem d_M_feed_93 : decode c_M_feed 93 = .ok (.ishr, 1) := by decide +kernel
theorem d_M_feed_94 : decode c_M_feed 94 = .ok (.sipush 255, 3) := by decide +kernel
theorem d_M_feed_97 : decode c_M_feed 97 = .ok (.iand, 1) := by decide +kernel
theorem d_M_feed_98 : decode c_M_feed 98 = .ok (.iastore, 1) := by decide +kernel
theorem d_M_feed_99 : decode c_M_feed 99 = .ok (.iinc 5 1, 3) := by decide +kernel
theorem d_M_feed_102 : decode c_M_feed 102 = .ok (.goto (-75), 3) := by decide +kernel
theorem d_M_feed_105 : decode c_M_feed 105 = .ok (.aload_n 0, 1) := by decide +kernel
theorem d_M_feed_106 : decode c_M_feed 106 = .ok (.dup, 1) := by decide +kernel
theorem d_M_feed_107 : decode c_M_feed 107 = .ok (.getfield 59, 3) := by decide +kernel
theorem d_M_feed_110 : decode c_M_feed 110 = .ok (.bipush 16, 2) := by decide +kernel
theorem d_M_feed_112 : decode c_M_feed 112 = .ok (.iadd, 1) := by decide +kernel
theorem d_M_feed_113 : decode c_M_feed 113 = .ok (.putfield 59, 3) := by decide +kernel
theorem d_M_feed_116 : decode c_M_feed 116 = .ok (.aload_n 0, 1) := by decide +kernel
theorem d_M_feed_117 : decode c_M_feed 117 = .ok (.getfield 59, 3) := by decide +kernel
theorem d_M_feed_120 : decode c_M_feed 120 = .ok (.ireturn, 1) := by decide +kernel
theorem d_M_fail_0 : decode c_M_fail 0 = .ok (.aload_n 0, 1) := by decide +kernel
theorem d_M_fail_1 : decode c_M_fail 1 = .ok (.iload_n 1, 1) := by decide +kernel
theorem d_M_fail_2 : decode c_M_fail 2 = .ok (.putfield 55, 3) := by decide +kernel
theorem d_M_fail_5 : decode c_M_fail 5 = .ok (.iconst 0, 1) := by decide +kernel
theorem d_M_fail_6 : decode c_M_fail 6 = .ok (.ireturn, 1) := by decide +kernel
theorem d_M_end_0 : decode c_M_end 0 = .ok (.aload_n 0, 1) := by decide +kernel
theorem d_M_end_1 : decode c_M_end 1 = .ok (.iconst 0, 1) := by decide +kernel
theorem d_M_end_2 : decode c_M_end 2 = .ok (.putfield 55, 3) := by decide +kernel
theorem d_M_end_5 : decode c_M_end 5 = .ok (.iload_n 1, 1) := by decide +kernel
theorem d_M_end_6 : decode c_M_end 6 = .ok (.iconst 0, 1) := by decide +kernel
theorem d_M_end_7 : decode c_M_end 7 = .ok (.bipush 16, 2) := by decide +kernel
theorem d_M_end_9 : decode c_M_end 9 = .ok (.invokestatic 66, 3) := by decide +kernel
theorem d_M_end_12 : decode c_M_end 12 = .ok (.ifCond .ne 9, 3) := by decide +kernel
theorem d_M_end_15 : decode c_M_end 15 = .ok (.aload_n 0, 1) := by decide +kernel
theorem d_M_end_16 : decode c_M_end 16 = .ok (.iconst 1, 1) := by decide +kernel
theorem d_M_end_17 : decode c_M_end 17 = .ok (.invokevirtual 62, 3) := by decide +kernel
theorem d_M_end_20 : decode c_M_end 20 = .ok (.ireturn, 1) := by decide +kernel
theorem d_M_end_21 : decode c_M_end 21 = .ok (.aload_n 0, 1) := by decide +kernel
theorem d_M_end_22 : decode c_M_end 22 = .ok (.getfield 59, 3) := by decide +kernel
theorem d_M_end_25 : decode c_M_end 25 = .ok (.bipush 16, 2) := by decide +kernel
theorem d_M_end_27 : decode c_M_end 27 = .ok (.if_icmp .ge 9, 3) := by decide +kernel
theorem d_M_end_30 : decode c_M_end 30 = .ok (.aload_n 0, 1) := by decide +kernel
theorem d_M_end_31 : decode c_M_end 31 = .ok (.iconst 2, 1) := by decide +kernel
theorem d_M_end_32 : decode c_M_end 32 = .ok (.invokevirtual 62, 3) := by decide +kernel
theorem d_M_end_35 : decode c_M_end 35 = .ok (.ireturn, 1) := by decide +kernel
theorem d_M_end_36 : decode c_M_end 36 = .ok (.aload_n 0, 1) := by decide +kernel
theorem d_M_end_37 : decode c_M_end 37 = .ok (.dup, 1) := by decide +kernel
theorem d_M_end_38 : decode c_M_end 38 = .ok (.getfield 59, 3) := by decide +kernel
theorem d_M_end_41 : decode c_M_end 41 = .ok (.bipush 16, 2) := by decide +kernel
theorem d_M_end_43 : decode c_M_end 43 = .ok (.iload_n 1, 1) := by decide +kernel
theorem d_M_end_44 : decode c_M_end 44 = .ok (.isub, 1) := by decide +kernel
theorem d_M_end_45 : decode c_M_end 45 = .ok (.isub, 1) := by decide +kernel
theorem d_M_end_46 : decode c_M_end 46 = .ok (.putfield 59, 3) := by decide +kernel
theorem d_M_end_49 : decode c_M_end 49 = .ok (.aload_n 0, 1) := by decide +kernel
theorem d_M_end_50 : decode c_M_end 50 = .ok (.getfield 59, 3) := by decide +kernel
theorem d_M_end_53 : decode c_M_end 53 = .ok (.ireturn, 1) := by decide +kernel
theorem d_M_within_0 : decode c_M_within 0 = .ok (.iload_n 0, 1) := by decide +kernel
theorem d_M_within_1 : decode c_M_within 1 = .ok (.iload_n 1, 1) := by decide +kernel
theorem d_M_within_2 : decode c_M_within 2 = .ok (.if_icmp .lt 12, 3) := by decide +kernel
theorem d_M_within_5 : decode c_M_within 5 = .ok (.iload_n 0, 1) := by decide +kernel
theorem d_M_within_6 : decode c_M_within 6 = .ok (.iload_n 2, 1) := by decide +kernel
theorem d_M_within_7 : decode c_M_within 7 = .ok (.if_icmp .gt 7, 3) := by decide +kernel
theorem d_M_within_10 : decode c_M_within 10 = .ok (.iconst 1, 1) := by decide +kernel
theorem d_M_within_11 : decode c_M_within 11 = .ok (.goto 4, 3) := by decide +kernel
theorem d_M_within_14 : decode c_M_within 14 = .ok (.iconst 0, 1) := by decide +kernel
theorem d_M_within_15 : decode c_M_within 15 = .ok (.ireturn, 1) := by decide +kernel
theorem d_M_read_0 : decode c_M_read 0 = .ok (.aload_n 0, 1) := by decide +kernel
theorem d_M_read_1 : decode c_M_read 1 = .ok (.iconst 0, 1) := by decide +kernel
theorem d_M_read_2 : decode c_M_read 2 = .ok (.putfield 55, 3) := by decide +kernel
theorem d_M_read_5 : decode c_M_read 5 = .ok (.aload_n 0, 1) := by decide +kernel
theorem d_M_read_6 : decode c_M_read 6 = .ok (.invokevirtual 52, 3) := by decide +kernel
theorem d_M_read_9 : decode c_M_read 9 = .ok (.aload_n 0, 1) := by decide +kernel
theorem d_M_read_10 : decode c_M_read 10 = .ok (.iconst 0, 1) := by decide +kernel
theorem d_M_read_11 : decode c_M_read 11 = .ok (.putfield 70, 3) := by decide +kernel
theorem d_M_read_14 : decode c_M_read 14 = .ok (.aload_n 0, 1) := by decide +kernel
theorem d_M_read_15 : decode c_M_read 15 = .ok (.iconst 0, 1) := by decide +kernel
theorem d_M_read_16 : decode c_M_read 16 = .ok (.putfield 73, 3) := by decide +kernel
theorem d_M_read_19 : decode c_M_read 19 = .ok (.aload_n 0, 1) := by decide +kernel
theorem d_M_read_20 : decode c_M_read 20 = .ok (.aload_n 0, 1) := by decide +kernel
theorem d_M_read_21 : decode c_M_read 21 = .ok (.getfield 59, 3) := by decide +kernel
theorem d_M_read_24 : decode c_M_read 24 = .ok (.putfield 79, 3) := by decide +kernel
theorem d_M_read_27 : decode c_M_read 27 = .ok (.iconst 0, 1) := by decide +kernel
theorem d_M_read_28 : decode c_M_read 28 = .ok (.istore_n 1, 1) := by decide +kernel
theorem d_M_read_29 : decode c_M_read 29 = .ok (.iload_n 1, 1) := by decide +kernel
theorem d_M_read_30 : decode c_M_read 30 = .ok (.aload_n 0, 1) := by decide +kernel
theorem d_M_read_31 : decode c_M_read 31 = .ok (.getfield 59, 3) := by decide +kernel
theorem d_M_read_34 : decode c_M_read 34 = .ok (.if_icmp .ge 21, 3) := by decide +kernel
theorem d_M_read_37 : decode c_M_read 37 = .ok (.aload_n 0, 1) := by decide +kernel
theorem d_M_read_38 : decode c_M_read 38 = .ok (.getfield 19, 3) := by decide +kernel
theorem d_M_read_41 : decode c_M_read 41 = .ok (.iload_n 1, 1) := by decide +kernel
theorem d_M_read_42 : decode c_M_read 42 = .ok (.aload_n 0, 1) := by decide +kernel
theorem d_M_read_43 : decode c_M_read 43 = .ok (.getfield 13, 3) := by decide +kernel
theorem d_M_read_46 : decode c_M_read 46 = .ok (.iload_n 1, 1) := by decide +kernel
theorem d_M_read_47 : decode c_M_read 47 = .ok (.iaload, 1) := by decide +kernel
theorem d_M_read_48 : decode c_M_read 48 = .ok (.iastore, 1) := by decide +kernel
theorem d_M_read_49 : decode c_M_read 49 = .ok (.iinc 1 1, 3) := by decide +kernel
theorem d_M_read_52 : decode c_M_read 52 = .ok (.goto (-23), 3) := by decide +kernel
theorem d_M_read_55 : decode c_M_read 55 = .ok (.aload_n 0, 1) := by decide +kernel
theorem d_M_read_56 : decode c_M_read 56 = .ok (.iconst 0, 1) := by decide +kernel
theorem d_M_read_57 : decode c_M_read 57 = .ok (.putfield 59, 3) := by decide +kernel
theorem d_M_read_60 : decode c_M_read 60 = .ok (.aload_n 0, 1) := by decide +kernel
theorem d_M_read_61 : decode c_M_read 61 = .ok (.iconst 0, 1) := by decide +kernel
theorem d_M_read_62 : decode c_M_read 62 = .ok (.putfield 76, 3) := by decide +kernel
theorem d_M_read_65 : decode c_M_read 65 = .ok (.aload_n 0, 1) := by decide +kernel
theorem d_M_read_66 : decode c_M_read 66 = .ok (.invokevirtual 112, 3) := by decide +kernel
theorem d_M_read_69 : decode c_M_read 69 = .ok (.aload_n 0, 1) := by decide +kernel
theorem d_M_read_70 : decode c_M_read 70 = .ok (.getfield 70, 3) := by decide +kernel
theorem d_M_read_73 : decode c_M_read 73 = .ok (.ifCond .ne 17, 3) := by decide +kernel
theorem d_M_read_76 : decode c_M_read 76 = .ok (.aload_n 0, 1) := by decide +kernel
theorem d_M_read_77 : decode c_M_read 77 = .ok (.getfield 92, 3) := by decide +kernel
theorem d_M_read_80 : decode c_M_read 80 = .ok (.ifCond .eq 10, 3) := by decide +kernel
theorem d_M_read_83 : decode c_M_read 83 = .ok (.aload_n 0, 1) := by decide +kernel
theorem d_M_read_84 : decode c_M_read 84 = .ok (.invokevirtual 169, 3) := by decide +kernel
theorem d_M_read_87 : decode c_M_read 87 = .ok (.goto (-18), 3) := by decide +kernel
theorem d_M_read_90 : decode c_M_read 90 = .ok (.aload_n 0, 1) := by decide +kernel
theorem d_M_read_91 : decode c_M_read 91 = .ok (.getfield 70, 3) := by decide +kernel
theorem d_M_read_94 : decode c_M_read 94 = .ok (.ifCond .le 13, 3) := by decide +kernel
theorem d_M_read_97 : decode c_M_read 97 = .ok (.aload_n 0, 1) := by decide +kernel
theorem d_M_read_98 : decode c_M_read 98 = .ok (.invokevirtual 52, 3) := by decide +kernel
theorem d_M_read_101 : decode c_M_read 101 = .ok (.aload_n 0, 1) := by decide +kernel
theorem d_M_read_102 : decode c_M_read 102 = .ok (.iconst 1, 1) := by decide +kernel
theorem d_M_read_103 : decode c_M_read 103 = .ok (.invokevirtual 62, 3) := by decide +kernel
theorem d_M_read_106 : decode c_M_read 106 = .ok (.ireturn, 1) := by decide +kernel
theorem d_M_read_107 : decode c_M_read 107 = .ok (.aload_n 0, 1) := by decide +kernel
theorem d_M_read_108 : decode c_M_read 108 = .ok (.getfield 151, 3) := by decide +kernel
theorem d_M_read_111 : decode c_M_read 111 = .ok (.ireturn, 1) := by decide +kernel
theorem d_M_advance_0 : decode c_M_advance 0 = .ok (.aload_n 0, 1) := by decide +kernel
theorem d_M_advance_1 : decode c_M_advance 1 = .ok (.invokevirtual 89, 3) := by decide +kernel
theorem d_M_advance_4 : decode c_M_advance 4 = .ok (.aload_n 0, 1) := by decide +kernel
theorem d_M_advance_5 : decode c_M_advance 5 = .ok (.aload_n 0, 1) := by decide +kernel
theorem d_M_advance_6 : decode c_M_advance 6 = .ok (.getfield 76, 3) := by decide +kernel
theorem d_M_advance_9 : decode c_M_advance 9 = .ok (.putfield 86, 3) := by decide +kernel
theorem d_M_advance_12 : decode c_M_advance 12 = .ok (.aload_n 0, 1) := by decide +kernel
theorem d_M_advance_13 : decode c_M_advance 13 = .ok (.iconst 0, 1) := by decide +kernel
theorem d_M_advance_14 : decode c_M_advance 14 = .ok (.putfield 92, 3) := by decide +kernel
theorem d_M_advance_17 : decode c_M_advance 17 = .ok (.aload_n 0, 1) := by decide +kernel
theorem d_M_advance_18 : decode c_M_advance 18 = .ok (.getfield 86, 3) := by decide +kernel
theorem d_M_advance_21 : decode c_M_advance 21 = .ok (.aload_n 0, 1) := by decide +kernel
theorem d_M_advance_22 : decode c_M_advance 22 = .ok (.getfield 79, 3) := by decide +kernel
theorem d_M_advance_25 : decode c_M_advance 25 = .ok (.if_icmp .ne 4, 3) := by decide +kernel
theorem d_M_advance_28 : decode c_M_advance 28 = .ok (.return_, 1) := by decide +kernel
theorem d_M_advance_29 : decode c_M_advance 29 = .ok (.aload_n 0, 1) := by decide +kernel
theorem d_M_advance_30 : decode c_M_advance 30 = .ok (.getfield 19, 3) := by decide +kernel
theorem d_M_advance_33 : decode c_M_advance 33 = .ok (.aload_n 0, 1) := by decide +kernel
theorem d_M_advance_34 : decode c_M_advance 34 = .ok (.getfield 86, 3) := by decide +kernel
theorem d_M_advance_37 : decode c_M_advance 37 = .ok (.iaload, 1) := by decide +kernel
theorem d_M_advance_38 : decode c_M_advance 38 = .ok (.istore_n 1, 1) := by decide +kernel
theorem d_M_advance_39 : decode c_M_advance 39 = .ok (.iload_n 1, 1) := by decide +kernel
theorem d_M_advance_40 : decode c_M_advance 40 = .ok (.invokestatic 95, 3) := by decide +kernel
theorem d_M_advance_43 : decode c_M_advance 43 = .ok (.ifCond .eq 111, 3) := by decide +kernel
theorem d_M_advance_46 : decode c_M_advance 46 = .ok (.aload_n 0, 1) := by decide +kernel
theorem d_M_advance_47 : decode c_M_advance 47 = .ok (.getfield 76, 3) := by decide +kernel
theorem d_M_advance_50 : decode c_M_advance 50 = .ok (.aload_n 0, 1) := by decide +kernel
theorem d_M_advance_51 : decode c_M_advance 51 = .ok (.getfield 79, 3) := by decide +kernel
theorem d_M_advance_54 : decode c_M_advance 54 = .ok (.if_icmp .ge 50, 3) := by decide +kernel
theorem d_M_advance_57 : decode c_M_advance 57 = .ok (.aload_n 0, 1) := by decide +kernel
theorem d_M_advance_58 : decode c_M_advance 58 = .ok (.getfield 19, 3) := by decide +kernel
theorem d_M_advance_61 : decode c_M_advance 61 = .ok (.aload_n 0, 1) := by decide +kernel
theorem d_M_advance_62 : decode c_M_advance 62 = .ok (.getfield 76, 3) := by decide +kernel
theorem d_M_advance_65 : decode c_M_advance 65 = .ok (.iaload, 1) := by decide +kernel
theorem d_M_advance_66 : decode c_M_advance 66 = .ok (.invokestatic 95, 3) := by decide +kernel
theorem d_M_advance_69 : decode c_M_advance 69 = .ok (.ifCond .ne 22, 3) := by decide +kernel
theorem d_M_advance_72 : decode c_M_advance 72 = .ok (.aload_n 0, 1) := by decide +kernel
theorem d_M_advance_73 : decode c_M_advance 73 = .ok (.getfield 19, 3) := by decide +kernel
theorem d_M_advance_76 : decode c_M_advance 76 = .ok (.aload_n 0, 1) := by decide +kernel
theorem d_M_advance_77 : decode c_M_advance 77 = .ok (.getfield 76, 3) := by decide +kernel
theorem d_M_advance_80 : decode c_M_advance 80 = .ok (.iaload, 1) := by decide +kernel
theorem d_M_advance_81 : decode c_M_advance 81 = .ok (.bipush 48, 2) := by decide +kernel
theorem d_M_advance_83 : decode c_M_advance 83 = .ok (.bipush 57, 2) := by decide +kernel
theorem d_M_advance_85 : decode c_M_advance 85 = .ok (.invokestatic 66, 3) := by decide +kernel
theorem d_M_advance_88 : decode c_M_advance 88 = .ok (.ifCond .eq 16, 3) := by decide +kernel
theorem d_M_advance_91 : decode c_M_advance 91 = .ok (.aload_n 0, 1) := by decide +kernel
theorem d_M_advance_92 : decode c_M_advance 92 = .ok (.dup, 1) := by decide +kernel
theorem d_M_advance_93 : decode c_M_advance 93 = .ok (.getfield 76, 3) := by decide +kernel
theorem d_M_advance_96 : decode c_M_advance 96 = .ok (.iconst 1, 1) := by decide +kernel
theorem d_M_advance_97 : decode c_M_advance 97 = .ok (.iadd, 1) := by decide +kernel
theorem d_M_advance_98 : decode c_M_advance 98 = .ok (.putfield 76, 3) := by decide +kernel
theorem d_M_advance_101 : decode c_M_advance 101 = .ok (.goto (-55), 3) := by decide +kernel
theorem d_M_advance_104 : decode c_M_advance 104 = .ok (.aload_n 0, 1) := by decide +kernel
theorem d_M_advance_105 : decode c_M_advance 105 = .ok (.aload_n 0, 1) := by decide +kernel
theorem d_M_advance_106 : decode c_M_advance 106 = .ok (.invokevirtual 98, 3) := by decide +kernel
theorem d_M_advance_109 : decode c_M_advance 109 = .ok (.putfield 102, 3) := by decide +kernel
theorem d_M_advance_112 : decode c_M_advance 112 = .ok (.aload_n 0, 1) := by decide +kernel
theorem d_M_advance_113 : decode c_M_advance 113 = .ok (.aload_n 0, 1) := by decide +kernel
theorem d_M_advance_114 : decode c_M_advance 114 = .ok (.getfield 102, 3) := by decide +kernel
theorem d_M_advance_117 : decode c_M_advance 117 = .ok (.ifCond .ge 7, 3) := by decide +kernel
theorem d_M_advance_120 : decode c_M_advance 120 = .ok (.iconst 1, 1) := by decide +kernel
theorem d_M_advance_121 : decode c_M_advance 121 = .ok (.goto 4, 3) := by decide +kernel
theorem d_M_advance_124 : decode c_M_advance 124 = .ok (.iconst 3, 1) := by decide +kernel
theorem d_M_advance_125 : decode c_M_advance 125 = .ok (.putfield 92, 3) := by decide +kernel
theorem d_M_advance_128 : decode c_M_advance 128 = .ok (.aload_n 0, 1) := by decide +kernel
theorem d_M_advance_129 : decode c_M_advance 129 = .ok (.getfield 76, 3) := by decide +kernel
theorem d_M_advance_132 : decode c_M_advance 132 = .ok (.aload_n 0, 1) := by decide +kernel
theorem d_M_advance_133 : decode c_M_advance 133 = .ok (.getfield 86, 3) := by decide +kernel
theorem d_M_advance_136 : decode c_M_advance 136 = .ok (.isub, 1) := by decide +kernel
theorem d_M_advance_137 : decode c_M_advance 137 = .ok (.bipush 12, 2) := by decide +kernel
theorem d_M_advance_139 : decode c_M_advance 139 = .ok (.if_icmp .le 71, 3) := by decide +kernel
theorem d_M_advance_142 : decode c_M_advance 142 = .ok (.aload_n 0, 1) := by decide +kernel
theorem d_M_advance_143 : decode c_M_advance 143 = .ok (.iconst 1, 1) := by decide +kernel
theorem d_M_advance_144 : decode c_M_advance 144 = .ok (.aload_n 0, 1) := by decide +kernel
theorem d_M_advance_145 : decode c_M_advance 145 = .ok (.getfield 86, 3) := by decide +kernel
theorem d_M_advance_148 : decode c_M_advance 148 = .ok (.invokevirtual 105, 3) := by decide +kernel
theorem d_M_advance_151 : decode c_M_advance 151 = .ok (.goto 59, 3) := by decide +kernel
theorem d_M_advance_154 : decode c_M_advance 154 = .ok (.iload_n 1, 1) := by decide +kernel
theorem d_M_advance_155 : decode c_M_advance 155 = .ok (.bipush 58, 2) := by decide +kernel
theorem d_M_advance_157 : decode c_M_advance 157 = .ok (.if_icmp .eq 21, 3) := by decide +kernel
theorem d_M_advance_160 : decode c_M_advance 160 = .ok (.iload_n 1, 1) := by decide +kernel
theorem d_M_advance_161 : decode c_M_advance 161 = .ok (.bipush 59, 2) := by decide +kernel
theorem d_M_advance_163 : decode c_M_advance 163 = .ok (.if_icmp .eq 15, 3) := by decide +kernel
theorem d_M_advance_166 : decode c_M_advance 166 = .ok (.iload_n 1, 1) := by decide +kernel
theorem d_M_advance_167 : decode c_M_advance 167 = .ok (.bipush 44, 2) := by decide +kernel
theorem d_M_advance_169 : decode c_M_advance 169 = .ok (.if_icmp .eq 9, 3) := by decide +kernel
theorem d_M_advance_172 : decode c_M_advance 172 = .ok (.iload_n 1, 1) := by decide +kernel
theorem d_M_advance_173 : decode c_M_advance 173 = .ok (.bipush 62, 2) := by decide +kernel
theorem d_M_advance_175 : decode c_M_advance 175 = .ok (.if_icmp .ne 26, 3) := by decide +kernel
theorem d_M_advance_178 : decode c_M_advance 178 = .ok (.aload_n 0, 1) := by decide +kernel
theorem d_M_advance_179 : decode c_M_advance 179 = .ok (.iconst 2, 1) := by decide +kernel
theorem d_M_advance_180 : decode c_M_advance 180 = .ok (.putfield 92, 3) := by decide +kernel
theorem d_M_advance_183 : decode c_M_advance 183 = .ok (.aload_n 0, 1) := by decide +kernel
theorem d_M_advance_184 : decode c_M_advance 184 = .ok (.iload_n 1, 1) := by decide +kernel
theorem d_M_advance_185 : decode c_M_advance 185 = .ok (.putfield 102, 3) := by decide +kernel
theorem d_M_advance_188 : decode c_M_advance 188 = .ok (.aload_n 0, 1) := by decide +kernel
theorem d_M_advance_189 : decode c_M_advance 189 = .ok (.dup, 1) := by decide +kernel
theorem d_M_advance_190 : decode c_M_advance 190 = .ok (.getfield 76, 3) := by decide +kernel
theorem d_M_advance_193 : decode c_M_advance 193 = .ok (.iconst 1, 1) := by decide +kernel
theorem d_M_advance_194 : decode c_M_advance 194 = .ok (.iadd, 1) := by decide +kernel
theorem d_M_advance_195 : decode c_M_advance 195 = .ok (.putfield 76, 3) := by decide +kernel
theorem d_M_advance_198 : decode c_M_advance 198 = .ok (.goto 12, 3) := by decide +kernel
theorem d_M_advance_201 : decode c_M_advance 201 = .ok (.aload_n 0, 1) := by decide +kernel
theorem d_M_advance_202 : decode c_M_advance 202 = .ok (.iconst 1, 1) := by decide +kernel
theorem d_M_advance_203 : decode c_M_advance 203 = .ok (.aload_n 0, 1) := by decide +kernel
theorem d_M_advance_204 : decode c_M_advance 204 = .ok (.getfield 86, 3) := by decide +kernel
theorem d_M_advance_207 : decode c_M_advance 207 = .ok (.invokevirtual 105, 3) := by decide +kernel
theorem d_M_advance_210 : decode c_M_advance 210 = .ok (.return_, 1) := by decide +kernel
theorem d_M_passWhite_0 : decode c_M_passWhite 0 = .ok (.iconst 1, 1) := by decide +kernel
theorem d_M_passWhite_1 : decode c_M_passWhite 1 = .ok (.istore_n 1, 1) := by decide +kernel
theorem d_M_passWhite_2 : decode c_M_passWhite 2 = .ok (.iload_n 1, 1) := by decide +kernel
theorem d_M_passWhite_3 : decode c_M_passWhite 3 = .ok (.ifCond .eq 115, 3) := by decide +kernel
theorem d_M_passWhite_6 : decode c_M_passWhite 6 = .ok (.aload_n 0, 1) := by decide +kernel
theorem d_M_passWhite_7 : decode c_M_passWhite 7 = .ok (.getfield 76, 3) := by decide +kernel
theorem d_M_passWhite_10 : decode c_M_passWhite 10 = .ok (.aload_n 0, 1) := by decide +kernel
theorem d_M_passWhite_11 : decode c_M_passWhite 11 = .ok (.getfield 79, 3) := by decide +kernel
theorem d_M_passWhite_14 : decode c_M_passWhite 14 = .ok (.if_icmp .ge 31, 3) := by decide +kernel
theorem d_M_passWhite_17 : decode c_M_passWhite 17 = .ok (.aload_n 0, 1) := by decide +kernel
theorem d_M_passWhite_18 : decode c_M_passWhite 18 = .ok (.getfield 19, 3) := by decide +kernel
theorem d_M_passWhite_21 : decode c_M_passWhite 21 = .ok (.aload_n 0, 1) := by decide +kernel
theorem d_M_passWhite_22 : decode c_M_passWhite 22 = .ok (.getfield 76, 3) := by decide +kernel
theorem d_M_passWhite_25 : decode c_M_passWhite 25 = .ok (.iaload, 1) := by decide +kernel
theorem d_M_passWhite_26 : decode c_M_passWhite 26 = .ok (.invokestatic 82, 3) := by decide +kernel
theorem d_M_passWhite_29 : decode c_M_passWhite 29 = .ok (.ifCond .eq 16, 3) := by decide +kernel
theorem d_M_passWhite_32 : decode c_M_passWhite 32 = .ok (.aload_n 0, 1) := by decide +kernel
theorem d_M_passWhite_33 : decode c_M_passWhite 33 = .ok (.dup, 1) := by decide +kernel
theorem d_M_passWhite_34 : decode c_M_passWhite 34 = .ok (.getfield 76, 3) := by decide +kernel
theorem d_M_passWhite_37 : decode c_M_passWhite 37 = .ok (.iconst 1, 1) := by decide +kernel
theorem d_M_passWhite_38 : decode c_M_passWhite 38 = .ok (.iadd, 1) := by decide +kernel
theorem d_M_passWhite_39 : decode c_M_passWhite 39 = .ok (.putfield 76, 3) := by decide +kernel
theorem d_M_passWhite_42 : decode c_M_passWhite 42 = .ok (.goto (-36), 3) := by decide +kernel
theorem d_M_passWhite_45 : decode c_M_passWhite 45 = .ok (.aload_n 0, 1) := by decide +kernel
theorem d_M_passWhite_46 : decode c_M_passWhite 46 = .ok (.getfield 76, 3) := by decide +kernel
theorem d_M_passWhite_49 : decode c_M_passWhite 49 = .ok (.aload_n 0, 1) := by decide +kernel
theorem d_M_passWhite_50 : decode c_M_passWhite 50 = .ok (.getfield 79, 3) := by decide +kernel
theorem d_M_passWhite_53 : decode c_M_passWhite 53 = .ok (.if_icmp .ge 21, 3) := by decide +kernel
theorem d_M_passWhite_56 : decode c_M_passWhite 56 = .ok (.aload_n 0, 1) := by decide +kernel
theorem d_M_passWhite_57 : decode c_M_passWhite 57 = .ok (.getfield 19, 3) := by decide +kernel
theorem d_M_passWhite_60 : decode c_M_passWhite 60 = .ok (.aload_n 0, 1) := by decide +kernel
theorem d_M_passWhite_61 : decode c_M_passWhite 61 = .ok (.getfield 76, 3) := by decide +kernel
theorem d_M_passWhite_64 : decode c_M_passWhite 64 = .ok (.iaload, 1) := by decide +kernel
theorem d_M_passWhite_65 : decode c_M_passWhite 65 = .ok (.bipush 35, 2) := by decide +kernel
theorem d_M_passWhite_67 : decode c_M_passWhite 67 = .ok (.if_icmp .ne 7, 3) := by decide +kernel
theorem d_M_passWhite_70 : decode c_M_passWhite 70 = .ok (.iconst 1, 1) := by decide +kernel
theorem d_M_passWhite_71 : decode c_M_passWhite 71 = .ok (.goto 4, 3) := by decide +kernel
theorem d_M_passWhite_74 : decode c_M_passWhite 74 = .ok (.iconst 0, 1) := by decide +kernel
theorem d_M_passWhite_75 : decode c_M_passWhite 75 = .ok (.istore_n 1, 1) := by decide +kernel
theorem d_M_passWhite_76 : decode c_M_passWhite 76 = .ok (.iload_n 1, 1) := by decide +kernel
theorem d_M_passWhite_77 : decode c_M_passWhite 77 = .ok (.ifCond .eq (-75), 3) := by decide +kernel
theorem d_M_passWhite_80 : decode c_M_passWhite 80 = .ok (.aload_n 0, 1) := by decide +kernel
theorem d_M_passWhite_81 : decode c_M_passWhite 81 = .ok (.getfield 76, 3) := by decide +kernel
theorem d_M_passWhite_84 : decode c_M_passWhite 84 = .ok (.aload_n 0, 1) := by decide +kernel
theorem d_M_passWhite_85 : decode c_M_passWhite 85 = .ok (.getfield 79, 3) := by decide +kernel
theorem d_M_passWhite_88 : decode c_M_passWhite 88 = .ok (.if_icmp .ge (-86), 3) := by decide +kernel
theorem d_M_passWhite_91 : decode c_M_passWhite 91 = .ok (.aload_n 0, 1) := by decide +kernel
theorem d_M_passWhite_92 : decode c_M_passWhite 92 = .ok (.getfield 19, 3) := by decide +kernel
theorem d_M_passWhite_95 : decode c_M_passWhite 95 = .ok (.aload_n 0, 1) := by decide +kernel
theorem d_M_passWhite_96 : decode c_M_passWhite 96 = .ok (.getfield 76, 3) := by decide +kernel
theorem d_M_passWhite_99 : decode c_M_passWhite 99 = .ok (.iaload, 1) := by decide +kernel
theorem d_M_passWhite_100 : decode c_M_passWhite 100 = .ok (.bipush 10, 2) := by decide +kernel
theorem d_M_passWhite_102 : decode c_M_passWhite 102 = .ok (.if_icmp .eq (-100), 3) := by decide +kernel
theorem d_M_passWhite_105 : decode c_M_passWhite 105 = .ok (.aload_n 0, 1) := by decide +kernel
theorem d_M_passWhite_106 : decode c_M_passWhite 106 = .ok (.dup, 1) := by decide +kernel
theorem d_M_passWhite_107 : decode c_M_passWhite 107 = .ok (.getfield 76, 3) := by decide +kernel
theorem d_M_passWhite_110 : decode c_M_passWhite 110 = .ok (.iconst 1, 1) := by decide +kernel
theorem d_M_passWhite_111 : decode c_M_passWhite 111 = .ok (.iadd, 1) := by decide +kernel
theorem d_M_passWhite_112 : decode c_M_passWhite 112 = .ok (.putfield 76, 3) := by decide +kernel
theorem d_M_passWhite_115 : decode c_M_passWhite 115 = .ok (.goto (-39), 3) := by decide +kernel
theorem d_M_passWhite_118 : decode c_M_passWhite 118 = .ok (.return_, 1) := by decide +kernel
theorem d_M_isWhite_0 : decode c_M_isWhite 0 = .ok (.iload_n 0, 1) := by decide +kernel
theorem d_M_isWhite_1 : decode c_M_isWhite 1 = .ok (.bipush 9, 2) := by decide +kernel
theorem d_M_isWhite_3 : decode c_M_isWhite 3 = .ok (.if_icmp .eq 21, 3) := by decide +kernel
theorem d_M_isWhite_6 : decode c_M_isWhite 6 = .ok (.iload_n 0, 1) := by decide +kernel
theorem d_M_isWhite_7 : decode c_M_isWhite 7 = .ok (.bipush 10, 2) := by decide +kernel
theorem d_M_isWhite_9 : decode c_M_isWhite 9 = .ok (.if_icmp .eq 15, 3) := by decide +kernel
theorem d_M_isWhite_12 : decode c_M_isWhite 12 = .ok (.iload_n 0, 1) := by decide +kernel
theorem d_M_isWhite_13 : decode c_M_isWhite 13 = .ok (.bipush 13, 2) := by decide +kernel
theorem d_M_isWhite_15 : decode c_M_isWhite 15 = .ok (.if_icmp .eq 9, 3) := by decide +kernel
theorem d_M_isWhite_18 : decode c_M_isWhite 18 = .ok (.iload_n 0, 1) := by decide +kernel
theorem d_M_isWhite_19 : decode c_M_isWhite 19 = .ok (.bipush 32, 2) := by decide +kernel
theorem d_M_isWhite_21 : decode c_M_isWhite 21 = .ok (.if_icmp .ne 7, 3) := by decide +kernel
theorem d_M_isWhite_24 : decode c_M_isWhite 24 = .ok (.iconst 1, 1) := by decide +kernel
theorem d_M_isWhite_25 : decode c_M_isWhite 25 = .ok (.goto 4, 3) := by decide +kernel
theorem d_M_isWhite_28 : decode c_M_isWhite 28 = .ok (.iconst 0, 1) := by decide +kernel
theorem d_M_isWhite_29 : decode c_M_isWhite 29 = .ok (.ireturn, 1) := by decide +kernel
theorem d_M_isSmall_0 : decode c_M_isSmall 0 = .ok (.iload_n 0, 1) := by decide +kernel
theorem d_M_isSmall_1 : decode c_M_isSmall 1 = .ok (.bipush 97, 2) := by decide +kernel
theorem d_M_isSmall_3 : decode c_M_isSmall 3 = .ok (.bipush 122, 2) := by decide +kernel
theorem d_M_isSmall_5 : decode c_M_isSmall 5 = .ok (.invokestatic 66, 3) := by decide +kernel
theorem d_M_isSmall_8 : decode c_M_isSmall 8 = .ok (.ireturn, 1) := by decide +kernel
theorem d_M_wordHere_0 : decode c_M_wordHere 0 = .ok (.iconst 0, 1) := by decide +kernel
theorem d_M_wordHere_1 : decode c_M_wordHere 1 = .ok (.istore_n 1, 1) := by decide +kernel
theorem d_M_wordHere_2 : decode c_M_wordHere 2 = .ok (.iconst 0, 1) := by decide +kernel
theorem d_M_wordHere_3 : decode c_M_wordHere 3 = .ok (.istore_n 2, 1) := by decide +kernel
theorem d_M_wordHere_4 : decode c_M_wordHere 4 = .ok (.iload_n 2, 1) := by decide +kernel
theorem d_M_wordHere_5 : decode c_M_wordHere 5 = .ok (.bipush 9, 2) := by decide +kernel
theorem d_M_wordHere_7 : decode c_M_wordHere 7 = .ok (.if_icmp .ge 107, 3) := by decide +kernel
theorem d_M_wordHere_10 : decode c_M_wordHere 10 = .ok (.iconst 0, 1) := by decide +kernel
theorem d_M_wordHere_11 : decode c_M_wordHere 11 = .ok (.istore_n 3, 1) := by decide +kernel
theorem d_M_wordHere_12 : decode c_M_wordHere 12 = .ok (.aload_n 0, 1) := by decide +kernel
theorem d_M_wordHere_13 : decode c_M_wordHere 13 = .ok (.getfield 7, 3) := by decide +kernel
theorem d_M_wordHere_16 : decode c_M_wordHere 16 = .ok (.iload_n 1, 1) := by decide +kernel
theorem d_M_wordHere_17 : decode c_M_wordHere 17 = .ok (.iload_n 3, 1) := by decide +kernel
theorem d_M_wordHere_18 : decode c_M_wordHere 18 = .ok (.iadd, 1) := by decide +kernel
theorem d_M_wordHere_19 : decode c_M_wordHere 19 = .ok (.iaload, 1) := by decide +kernel
theorem d_M_wordHere_20 : decode c_M_wordHere 20 = .ok (.ifCond .eq 44, 3) := by decide +kernel
theorem d_M_wordHere_23 : decode c_M_wordHere 23 = .ok (.aload_n 0, 1) := by decide +kernel
theorem d_M_wordHere_24 : decode c_M_wordHere 24 = .ok (.getfield 86, 3) := by decide +kernel
theorem d_M_wordHere_27 : decode c_M_wordHere 27 = .ok (.iload_n 3, 1) := by decide +kernel
theorem d_M_wordHere_28 : decode c_M_wordHere 28 = .ok (.iadd, 1) := by decide +kernel
theorem d_M_wordHere_29 : decode c_M_wordHere 29 = .ok (.aload_n 0, 1) := by decide +kernel
theorem d_M_wordHere_30 : decode c_M_wordHere 30 = .ok (.getfield 76, 3) := by decide +kernel
theorem d_M_wordHere_33 : decode c_M_wordHere 33 = .ok (.if_icmp .ge 31, 3) := by decide +kernel
theorem d_M_wordHere_36 : decode c_M_wordHere 36 = .ok (.aload_n 0, 1) := by decide +kernel
theorem d_M_wordHere_37 : decode c_M_wordHere 37 = .ok (.getfield 7, 3) := by decide +kernel
theorem d_M_wordHere_40 : decode c_M_wordHere 40 = .ok (.iload_n 1, 1) := by decide +kernel
theorem d_M_wordHere_41 : decode c_M_wordHere 41 = .ok (.iload_n 3, 1) := by decide +kernel
theorem d_M_wordHere_42 : decode c_M_wordHere 42 = .ok (.iadd, 1) := by decide +kernel
theorem d_M_wordHere_43 : decode c_M_wordHere 43 = .ok (.iaload, 1) := by decide +kernel
theorem d_M_wordHere_44 : decode c_M_wordHere 44 = .ok (.aload_n 0, 1) := by decide +kernel
theorem d_M_wordHere_45 : decode c_M_wordHere 45 = .ok (.getfield 19, 3) := by decide +kernel
theorem d_M_wordHere_48 : decode c_M_wordHere 48 = .ok (.aload_n 0, 1) := by decide +kernel
theorem d_M_wordHere_49 : decode c_M_wordHere 49 = .ok (.getfield 86, 3) := by decide +kernel
theorem d_M_wordHere_52 : decode c_M_wordHere 52 = .ok (.iload_n 3, 1) := by decide +kernel
theorem d_M_wordHere_53 : decode c_M_wordHere 53 = .ok (.iadd, 1) := by decide +kernel
theorem d_M_wordHere_54 : decode c_M_wordHere 54 = .ok (.iaload, 1) := by decide +kernel
theorem d_M_wordHere_55 : decode c_M_wordHere 55 = .ok (.if_icmp .ne 9, 3) := by decide +kernel
theorem d_M_wordHere_58 : decode c_M_wordHere 58 = .ok (.iinc 3 1, 3) := by decide +kernel
theorem d_M_wordHere_61 : decode c_M_wordHere 61 = .ok (.goto (-49), 3) := by decide +kernel
theorem d_M_wordHere_64 : decode c_M_wordHere 64 = .ok (.aload_n 0, 1) := by decide +kernel
theorem d_M_wordHere_65 : decode c_M_wordHere 65 = .ok (.getfield 7, 3) := by decide +kernel
theorem d_M_wordHere_68 : decode c_M_wordHere 68 = .ok (.iload_n 1, 1) := by decide +kernel
theorem d_M_wordHere_69 : decode c_M_wordHere 69 = .ok (.iload_n 3, 1) := by decide +kernel
theorem d_M_wordHere_70 : decode c_M_wordHere 70 = .ok (.iadd, 1) := by decide +kernel
theorem d_M_wordHere_71 : decode c_M_wordHere 71 = .ok (.iaload, 1) := by decide +kernel
theorem d_M_wordHere_72 : decode c_M_wordHere 72 = .ok (.ifCond .ne 18, 3) := by decide +kernel
theorem d_M_wordHere_75 : decode c_M_wordHere 75 = .ok (.aload_n 0, 1) := by decide +kernel
theorem d_M_wordHere_76 : decode c_M_wordHere 76 = .ok (.getfield 86, 3) := by decide +kernel
theorem d_M_wordHere_79 : decode c_M_wordHere 79 = .ok (.iload_n 3, 1) := by decide +kernel
theorem d_M_wordHere_80 : decode c_M_wordHere 80 = .ok (.iadd, 1) := by decide +kernel
theorem d_M_wordHere_81 : decode c_M_wordHere 81 = .ok (.aload_n 0, 1) := by decide +kernel
theorem d_M_wordHere_82 : decode c_M_wordHere 82 = .ok (.getfield 76, 3) := by decide +kernel
theorem d_M_wordHere_85 : decode c_M_wordHere 85 = .ok (.if_icmp .ne 5, 3) := by decide +kernel
theorem d_M_wordHere_88 : decode c_M_wordHere 88 = .ok (.iload_n 2, 1) := by decide +kernel
theorem d_M_wordHere_89 : decode c_M_wordHere 89 = .ok (.ireturn, 1) := by decide +kernel
theorem d_M_wordHere_90 : decode c_M_wordHere 90 = .ok (.aload_n 0, 1) := by decide +kernel
theorem d_M_wordHere_91 : decode c_M_wordHere 91 = .ok (.getfield 7, 3) := by decide +kernel
theorem d_M_wordHere_94 : decode c_M_wordHere 94 = .ok (.iload_n 1, 1) := by decide +kernel
theorem d_M_wordHere_95 : decode c_M_wordHere 95 = .ok (.iaload, 1) := by decide +kernel
theorem d_M_wordHere_96 : decode c_M_wordHere 96 = .ok (.ifCond .eq 9, 3) := by decide +kernel
theorem d_M_wordHere_99 : decode c_M_wordHere 99 = .ok (.iinc 1 1, 3) := by decide +kernel
theorem d_M_wordHere_102 : decode c_M_wordHere 102 = .ok (.goto (-12), 3) := by decide +kernel
theorem d_M_wordHere_105 : decode c_M_wordHere 105 = .ok (.iinc 1 1, 3) := by decide +kernel
theorem d_M_wordHere_108 : decode c_M_wordHere 108 = .ok (.iinc 2 1, 3) := by decide +kernel
theorem d_M_wordHere_111 : decode c_M_wordHere 111 = .ok (.goto (-107), 3) := by decide +kernel
theorem d_M_wordHere_114 : decode c_M_wordHere 114 = .ok (.iconst (-1), 1) := by decide +kernel
theorem d_M_wordHere_115 : decode c_M_wordHere 115 = .ok (.ireturn, 1) := by decide +kernel
theorem d_M_tell_0 : decode c_M_tell 0 = .ok (.aload_n 0, 1) := by decide +kernel
theorem d_M_tell_1 : decode c_M_tell 1 = .ok (.getfield 70, 3) := by decide +kernel
theorem d_M_tell_4 : decode c_M_tell 4 = .ok (.ifCond .le 4, 3) := by decide +kernel
theorem d_M_tell_7 : decode c_M_tell 7 = .ok (.return_, 1) := by decide +kernel
theorem d_M_tell_8 : decode c_M_tell 8 = .ok (.aload_n 0, 1) := by decide +kernel
theorem d_M_tell_9 : decode c_M_tell 9 = .ok (.iload_n 1, 1) := by decide +kernel
theorem d_M_tell_10 : decode c_M_tell 10 = .ok (.putfield 70, 3) := by decide +kernel
theorem d_M_tell_13 : decode c_M_tell 13 = .ok (.aload_n 0, 1) := by decide +kernel
theorem d_M_tell_14 : decode c_M_tell 14 = .ok (.iload_n 2, 1) := by decide +kernel
theorem d_M_tell_15 : decode c_M_tell 15 = .ok (.putfield 73, 3) := by decide +kernel
theorem d_M_tell_18 : decode c_M_tell 18 = .ok (.return_, 1) := by decide +kernel
theorem d_M_readStatement_0 : decode c_M_readStatement 0 = .ok (.aload_n 0, 1) := by decide +kernel
theorem d_M_readStatement_1 : decode c_M_readStatement 1 = .ok (.getfield 92, 3) := by decide +kernel
theorem d_M_readStatement_4 : decode c_M_readStatement 4 = .ok (.iconst 3, 1) := by decide +kernel
theorem d_M_readStatement_5 : decode c_M_readStatement 5 = .ok (.if_icmp .ne 10, 3) := by decide +kernel
theorem d_M_readStatement_8 : decode c_M_readStatement 8 = .ok (.aload_n 0, 1) := by decide +kernel
theorem d_M_readStatement_9 : decode c_M_readStatement 9 = .ok (.getfield 102, 3) := by decide +kernel
theorem d_M_readStatement_12 : decode c_M_readStatement 12 = .ok (.goto 4, 3) := by decide +kernel
theorem d_M_readStatement_15 : decode c_M_readStatement 15 = .ok (.iconst (-1), 1) := by decide +kernel
theorem d_M_readStatement_16 : decode c_M_readStatement 16 = .ok (.istore_n 1, 1) := by decide +kernel
theorem d_M_readStatement_17 : decode c_M_readStatement 17 = .ok (.iload_n 1, 1) := by decide +kernel
theorem d_M_readStatement_18 : decode c_M_readStatement 18 = .ok (.ifCond .lt 9, 3) := by decide +kernel
theorem d_M_readStatement_21 : decode c_M_readStatement 21 = .ok (.iload_n 1, 1) := by decide +kernel
theorem d_M_readStatement_22 : decode c_M_readStatement 22 = .ok (.bipush 6, 2) := by decide +kernel
theorem d_M_readStatement_24 : decode c_M_readStatement 24 = .ok (.if_icmp .lt 13, 3) := by decide +kernel
theorem d_M_readStatement_27 : decode c_M_readStatement 27 = .ok (.aload_n 0, 1) := by decide +kernel
theorem d_M_readStatement_28 : decode c_M_readStatement 28 = .ok (.iconst 2, 1) := by decide +kernel
theorem d_M_readStatement_29 : decode c_M_readStatement 29 = .ok (.aload_n 0, 1) := by decide +kernel
theorem d_M_readStatement_30 : decode c_M_readStatement 30 = .ok (.getfield 86, 3) := by decide +kernel
theorem d_M_readStatement_33 : decode c_M_readStatement 33 = .ok (.invokevirtual 105, 3) := by decide +kernel
theorem d_M_readStatement_36 : decode c_M_readStatement 36 = .ok (.return_, 1) := by decide +kernel
theorem d_M_readStatement_37 : decode c_M_readStatement 37 = .ok (.aload_n 0, 1) := by decide +kernel
theorem d_M_readStatement_38 : decode c_M_readStatement 38 = .ok (.invokevirtual 112, 3) := by decide +kernel
theorem d_M_readStatement_41 : decode c_M_readStatement 41 = .ok (.iload_n 1, 1) := by decide +kernel
theorem d_M_readStatement_42 : decode c_M_readStatement 42 = .ok (.iconst 2, 1) := by decide +kernel
theorem d_M_readStatement_43 : decode c_M_readStatement 43 = .ok (.if_icmp .gt 8, 3) := by decide +kernel
theorem d_M_readStatement_46 : decode c_M_readStatement 46 = .ok (.aload_n 0, 1) := by decide +kernel
theorem d_M_readStatement_47 : decode c_M_readStatement 47 = .ok (.iload_n 1, 1) := by decide +kernel
theorem d_M_readStatement_48 : decode c_M_readStatement 48 = .ok (.invokevirtual 157, 3) := by decide +kernel
theorem d_M_readStatement_51 : decode c_M_readStatement 51 = .ok (.iload_n 1, 1) := by decide +kernel
theorem d_M_readStatement_52 : decode c_M_readStatement 52 = .ok (.iconst 3, 1) := by decide +kernel
theorem d_M_readStatement_53 : decode c_M_readStatement 53 = .ok (.if_icmp .ne 7, 3) := by decide +kernel
theorem d_M_readStatement_56 : decode c_M_readStatement 56 = .ok (.aload_n 0, 1) := by decide +kernel
theorem d_M_readStatement_57 : decode c_M_readStatement 57 = .ok (.invokevirtual 160, 3) := by decide +kernel
theorem d_M_readStatement_60 : decode c_M_readStatement 60 = .ok (.iload_n 1, 1) := by decide +kernel
theorem d_M_readStatement_61 : decode c_M_readStatement 61 = .ok (.iconst 4, 1) := by decide +kernel
theorem d_M_readStatement_62 : decode c_M_readStatement 62 = .ok (.if_icmp .ne 7, 3) := by decide +kernel
theorem d_M_readStatement_65 : decode c_M_readStatement 65 = .ok (.aload_n 0, 1) := by decide +kernel
theorem d_M_readStatement_66 : decode c_M_readStatement 66 = .ok (.invokevirtual 163, 3) := by decide +kernel
theorem d_M_readStatement_69 : decode c_M_readStatement 69 = .ok (.iload_n 1, 1) := by decide +kernel
theorem d_M_readStatement_70 : decode c_M_readStatement 70 = .ok (.iconst 5, 1) := by decide +kernel
theorem d_M_readStatement_71 : decode c_M_readStatement 71 = .ok (.if_icmp .ne 11, 3) := by decide +kernel
theorem d_M_readStatement_74 : decode c_M_readStatement 74 = .ok (.aload_n 0, 1) := by decide +kernel
theorem d_M_readStatement_75 : decode c_M_readStatement 75 = .ok (.aload_n 0, 1) := by decide +kernel
theorem d_M_readStatement_76 : decode c_M_readStatement 76 = .ok (.invokevirtual 139, 3) := by decide +kernel
theorem d_M_readStatement_79 : decode c_M_readStatement 79 = .ok (.putfield 166, 3) := by decide +kernel
theorem d_M_readStatement_82 : decode c_M_readStatement 82 = .ok (.aload_n 0, 1) := by decide +kernel
theorem d_M_readStatement_83 : decode c_M_readStatement 83 = .ok (.bipush 59, 2) := by decide +kernel
theorem d_M_readStatement_85 : decode c_M_readStatement 85 = .ok (.invokevirtual 145, 3) := by decide +kernel
theorem d_M_readStatement_88 : decode c_M_readStatement 88 = .ok (.return_, 1) := by decide +kernel
theorem d_M_readNames_0 : decode c_M_readNames 0 = .ok (.iconst 1, 1) := by decide +kernel
theorem d_M_readNames_1 : decode c_M_readNames 1 = .ok (.istore_n 2, 1) := by decide +kernel
theorem d_M_readNames_2 : decode c_M_readNames 2 = .ok (.iload_n 2, 1) := by decide +kernel
theorem d_M_readNames_3 : decode c_M_readNames 3 = .ok (.ifCond .eq 16, 3) := by decide +kernel
theorem d_M_readNames_6 : decode c_M_readNames 6 = .ok (.aload_n 0, 1) := by decide +kernel
theorem d_M_readNames_7 : decode c_M_readNames 7 = .ok (.iload_n 1, 1) := by decide +kernel
theorem d_M_readNames_8 : decode c_M_readNames 8 = .ok (.invokevirtual 128, 3) := by decide +kernel
theorem d_M_readNames_11 : decode c_M_readNames 11 = .ok (.aload_n 0, 1) := by decide +kernel
theorem d_M_readNames_12 : decode c_M_readNames 12 = .ok (.invokevirtual 132, 3) := by decide +kernel
theorem d_M_readNames_15 : decode c_M_readNames 15 = .ok (.istore_n 2, 1) := by decide +kernel
theorem d_M_readNames_16 : decode c_M_readNames 16 = .ok (.goto (-14), 3) := by decide +kernel
theorem d_M_readNames_19 : decode c_M_readNames 19 = .ok (.return_, 1) := by decide +kernel
theorem d_M_newName_0 : decode c_M_newName 0 = .ok (.aload_n 0, 1) := by decide +kernel
theorem d_M_newName_1 : decode c_M_newName 1 = .ok (.getfield 70, 3) := by decide +kernel
theorem d_M_newName_4 : decode c_M_newName 4 = .ok (.ifCond .le 4, 3) := by decide +kernel
theorem d_M_newName_7 : decode c_M_newName 7 = .ok (.return_, 1) := by decide +kernel
theorem d_M_newName_8 : decode c_M_newName 8 = .ok (.aload_n 0, 1) := by decide +kernel
theorem d_M_newName_9 : decode c_M_newName 9 = .ok (.getfield 92, 3) := by decide +kernel
theorem d_M_newName_12 : decode c_M_newName 12 = .ok (.iconst 1, 1) := by decide +kernel
theorem d_M_newName_13 : decode c_M_newName 13 = .ok (.if_icmp .eq 15, 3) := by decide +kernel
theorem d_M_newName_16 : decode c_M_newName 16 = .ok (.aload_n 0, 1) := by decide +kernel
theorem d_M_newName_17 : decode c_M_newName 17 = .ok (.iconst 2, 1) := by decide +kernel
theorem d_M_newName_18 : decode c_M_newName 18 = .ok (.aload_n 0, 1) := by decide +kernel
theorem d_M_newName_19 : decode c_M_newName 19 = .ok (.getfield 86, 3) := by decide +kernel
theorem d_M_newName_22 : decode c_M_newName 22 = .ok (.invokevirtual 105, 3) := by decide +kernel
theorem d_M_newName_25 : decode c_M_newName 25 = .ok (.goto 52, 3) := by decide +kernel
theorem d_M_newName_28 : decode c_M_newName 28 = .ok (.aload_n 0, 1) := by decide +kernel
theorem d_M_newName_29 : decode c_M_newName 29 = .ok (.getfield 34, 3) := by decide +kernel
theorem d_M_newName_32 : decode c_M_newName 32 = .ok (.iload_n 1, 1) := by decide +kernel
theorem d_M_newName_33 : decode c_M_newName 33 = .ok (.iaload, 1) := by decide +kernel
theorem d_M_newName_34 : decode c_M_newName 34 = .ok (.iload_n 1, 1) := by decide +kernel
theorem d_M_newName_35 : decode c_M_newName 35 = .ok (.iconst 1, 1) := by decide +kernel
theorem d_M_newName_36 : decode c_M_newName 36 = .ok (.if_icmp .ne 8, 3) := by decide +kernel
theorem d_M_newName_39 : decode c_M_newName 39 = .ok (.bipush 8, 2) := by decide +kernel
theorem d_M_newName_41 : decode c_M_newName 41 = .ok (.goto 5, 3) := by decide +kernel
theorem d_M_newName_44 : decode c_M_newName 44 = .ok (.bipush 16, 2) := by decide +kernel
theorem d_M_newName_46 : decode c_M_newName 46 = .ok (.if_icmp .ne 15, 3) := by decide +kernel
theorem d_M_newName_49 : decode c_M_newName 49 = .ok (.aload_n 0, 1) := by decide +kernel
theorem d_M_newName_50 : decode c_M_newName 50 = .ok (.iconst 3, 1) := by decide +kernel
theorem d_M_newName_51 : decode c_M_newName 51 = .ok (.aload_n 0, 1) := by decide +kernel
theorem d_M_newName_52 : decode c_M_newName 52 = .ok (.getfield 86, 3) := by decide +kernel
theorem d_M_newName_55 : decode c_M_newName 55 = .ok (.invokevirtual 105, 3) := by decide +kernel
theorem d_M_newName_58 : decode c_M_newName 58 = .ok (.goto 19, 3) := by decide +kernel
theorem d_M_newName_61 : decode c_M_newName 61 = .ok (.aload_n 0, 1) := by decide +kernel
theorem d_M_newName_62 : decode c_M_newName 62 = .ok (.invokevirtual 121, 3) := by decide +kernel
theorem d_M_newName_65 : decode c_M_newName 65 = .ok (.ifCond .lt 12, 3) := by decide +kernel
theorem d_M_newName_68 : decode c_M_newName 68 = .ok (.aload_n 0, 1) := by decide +kernel
theorem d_M_newName_69 : decode c_M_newName 69 = .ok (.iconst 4, 1) := by decide +kernel
theorem d_M_newName_70 : decode c_M_newName 70 = .ok (.aload_n 0, 1) := by decide +kernel
theorem d_M_newName_71 : decode c_M_newName 71 = .ok (.getfield 86, 3) := by decide +kernel
theorem d_M_newName_74 : decode c_M_newName 74 = .ok (.invokevirtual 105, 3) := by decide +kernel
theorem d_M_newName_77 : decode c_M_newName 77 = .ok (.aload_n 0, 1) := by decide +kernel
theorem d_M_newName_78 : decode c_M_newName 78 = .ok (.getfield 70, 3) := by decide +kernel
theorem d_M_newName_81 : decode c_M_newName 81 = .ok (.ifCond .le 4, 3) := by decide +kernel
theorem d_M_newName_84 : decode c_M_newName 84 = .ok (.return_, 1) := by decide +kernel
theorem d_M_newName_85 : decode c_M_newName 85 = .ok (.aload_n 0, 1) := by decide +kernel
theorem d_M_newName_86 : decode c_M_newName 86 = .ok (.getfield 22, 3) := by decide +kernel
theorem d_M_newName_89 : decode c_M_newName 89 = .ok (.aload_n 0, 1) := by decide +kernel
theorem d_M_newName_90 : decode c_M_newName 90 = .ok (.getfield 115, 3) := by decide +kernel
theorem d_M_newName_93 : decode c_M_newName 93 = .ok (.aload_n 0, 1) := by decide +kernel
theorem d_M_newName_94 : decode c_M_newName 94 = .ok (.getfield 86, 3) := by decide +kernel
theorem d_M_newName_97 : decode c_M_newName 97 = .ok (.iastore, 1) := by decide +kernel
theorem d_M_newName_98 : decode c_M_newName 98 = .ok (.aload_n 0, 1) := by decide +kernel
theorem d_M_newName_99 : decode c_M_newName 99 = .ok (.getfield 25, 3) := by decide +kernel
theorem d_M_newName_102 : decode c_M_newName 102 = .ok (.aload_n 0, 1) := by decide +kernel
theorem d_M_newName_103 : decode c_M_newName 103 = .ok (.getfield 115, 3) := by decide +kernel
theorem d_M_newName_106 : decode c_M_newName 106 = .ok (.aload_n 0, 1) := by decide +kernel
theorem d_M_newName_107 : decode c_M_newName 107 = .ok (.getfield 76, 3) := by decide +kernel
theorem d_M_newName_110 : decode c_M_newName 110 = .ok (.iastore, 1) := by decide +kernel
theorem d_M_newName_111 : decode c_M_newName 111 = .ok (.aload_n 0, 1) := by decide +kernel
theorem d_M_newName_112 : decode c_M_newName 112 = .ok (.getfield 28, 3) := by decide +kernel
theorem d_M_newName_115 : decode c_M_newName 115 = .ok (.aload_n 0, 1) := by decide +kernel
theorem d_M_newName_116 : decode c_M_newName 116 = .ok (.getfield 115, 3) := by decide +kernel
theorem d_M_newName_119 : decode c_M_newName 119 = .ok (.iload_n 1, 1) := by decide +kernel
theorem d_M_newName_120 : decode c_M_newName 120 = .ok (.iastore, 1) := by decide +kernel
theorem d_M_newName_121 : decode c_M_newName 121 = .ok (.aload_n 0, 1) := by decide +kernel
theorem d_M_newName_122 : decode c_M_newName 122 = .ok (.getfield 31, 3) := by decide +kernel
theorem d_M_newName_125 : decode c_M_newName 125 = .ok (.aload_n 0, 1) := by decide +kernel
theorem d_M_newName_126 : decode c_M_newName 126 = .ok (.getfield 115, 3) := by decide +kernel
theorem d_M_newName_129 : decode c_M_newName 129 = .ok (.aload_n 0, 1) := by decide +kernel
theorem d_M_newName_130 : decode c_M_newName 130 = .ok (.getfield 34, 3) := by decide +kernel
theorem d_M_newName_133 : decode c_M_newName 133 = .ok (.iload_n 1, 1) := by decide +kernel
theorem d_M_newName_134 : decode c_M_newName 134 = .ok (.iaload, 1) := by decide +kernel
theorem d_M_newName_135 : decode c_M_newName 135 = .ok (.iastore, 1) := by decide +kernel
theorem d_M_newName_136 : decode c_M_newName 136 = .ok (.aload_n 0, 1) := by decide +kernel
theorem d_M_newName_137 : decode c_M_newName 137 = .ok (.getfield 37, 3) := by decide +kernel
theorem d_M_newName_140 : decode c_M_newName 140 = .ok (.bipush 16, 2) := by decide +kernel
theorem d_M_newName_142 : decode c_M_newName 142 = .ok (.iload_n 1, 1) := by decide +kernel
theorem d_M_newName_143 : decode c_M_newName 143 = .ok (.imul, 1) := by decide +kernel
theorem d_M_newName_144 : decode c_M_newName 144 = .ok (.aload_n 0, 1) := by decide +kernel
theorem d_M_newName_145 : decode c_M_newName 145 = .ok (.getfield 34, 3) := by decide +kernel
theorem d_M_newName_148 : decode c_M_newName 148 = .ok (.iload_n 1, 1) := by decide +kernel
theorem d_M_newName_149 : decode c_M_newName 149 = .ok (.iaload, 1) := by decide +kernel
theorem d_M_newName_150 : decode c_M_newName 150 = .ok (.iadd, 1) := by decide +kernel
theorem d_M_newName_151 : decode c_M_newName 151 = .ok (.aload_n 0, 1) := by decide +kernel
theorem d_M_newName_152 : decode c_M_newName 152 = .ok (.getfield 115, 3) := by decide +kernel
theorem d_M_newName_155 : decode c_M_newName 155 = .ok (.iastore, 1) := by decide +kernel
theorem d_M_newName_156 : decode c_M_newName 156 = .ok (.aload_n 0, 1) := by decide +kernel
theorem d_M_newName_157 : decode c_M_newName 157 = .ok (.dup, 1) := by decide +kernel
theorem d_M_newName_158 : decode c_M_newName 158 = .ok (.getfield 115, 3) := by decide +kernel
theorem d_M_newName_161 : decode c_M_newName 161 = .ok (.iconst 1, 1) := by decide +kernel
theorem d_M_newName_162 : decode c_M_newName 162 = .ok (.iadd, 1) := by decide +kernel
theorem d_M_newName_163 : decode c_M_newName 163 = .ok (.putfield 115, 3) := by decide +kernel
theorem d_M_newName_166 : decode c_M_newName 166 = .ok (.aload_n 0, 1) := by decide +kernel
theorem d_M_newName_167 : decode c_M_newName 167 = .ok (.getfield 34, 3) := by decide +kernel
theorem d_M_newName_170 : decode c_M_newName 170 = .ok (.iload_n 1, 1) := by decide +kernel
theorem d_M_newName_171 : decode c_M_newName 171 = .ok (.dup2, 1) := by decide +kernel
theorem d_M_newName_172 : decode c_M_newName 172 = .ok (.iaload, 1) := by decide +kernel
theorem d_M_newName_173 : decode c_M_newName 173 = .ok (.iconst 1, 1) := by decide +kernel
theorem d_M_newName_174 : decode c_M_newName 174 = .ok (.iadd, 1) := by decide +kernel
theorem d_M_newName_175 : decode c_M_newName 175 = .ok (.iastore, 1) := by decide +kernel
theorem d_M_newName_176 : decode c_M_newName 176 = .ok (.aload_n 0, 1) := by decide +kernel
theorem d_M_newName_177 : decode c_M_newName 177 = .ok (.invokevirtual 112, 3) := by decide +kernel
theorem d_M_newName_180 : decode c_M_newName 180 = .ok (.return_, 1) := by decide +kernel
theorem d_M_find_0 : decode c_M_find 0 = .ok (.iconst (-1), 1) := by decide +kernel
theorem d_M_find_1 : decode c_M_find 1 = .ok (.istore_n 1, 1) := by decide +kernel
theorem d_M_find_2 : decode c_M_find 2 = .ok (.iconst 0, 1) := by decide +kernel
theorem d_M_find_3 : decode c_M_find 3 = .ok (.istore_n 2, 1) := by decide +kernel
theorem d_M_find_4 : decode c_M_find 4 = .ok (.iload_n 2, 1) := by decide +kernel
theorem d_M_find_5 : decode c_M_find 5 = .ok (.aload_n 0, 1) := by decide +kernel
theorem d_M_find_6 : decode c_M_find 6 = .ok (.getfield 115, 3) := by decide +kernel
theorem d_M_find_9 : decode c_M_find 9 = .ok (.if_icmp .ge 23, 3) := by decide +kernel
theorem d_M_find_12 : decode c_M_find 12 = .ok (.aload_n 0, 1) := by decide +kernel
theorem d_M_find_13 : decode c_M_find 13 = .ok (.iload_n 2, 1) := by decide +kernel
theorem d_M_find_14 : decode c_M_find 14 = .ok (.invokevirtual 118, 3) := by decide +kernel
theorem d_M_find_17 : decode c_M_find 17 = .ok (.ifCond .eq 7, 3) := by decide +kernel
theorem d_M_find_20 : decode c_M_find 20 = .ok (.iload_n 2, 1) := by decide +kernel
theorem d_M_find_21 : decode c_M_find 21 = .ok (.goto 4, 3) := by decide +kernel
theorem d_M_find_24 : decode c_M_find 24 = .ok (.iload_n 1, 1) := by decide +kernel
theorem d_M_find_25 : decode c_M_find 25 = .ok (.istore_n 1, 1) := by decide +kernel
theorem d_M_find_26 : decode c_M_find 26 = .ok (.iinc 2 1, 3) := by decide +kernel
theorem d_M_find_29 : decode c_M_find 29 = .ok (.goto (-25), 3) := by decide +kernel
theorem d_M_find_32 : decode c_M_find 32 = .ok (.iload_n 1, 1) := by decide +kernel
theorem d_M_find_33 : decode c_M_find 33 = .ok (.ireturn, 1) := by decide +kernel
theorem d_M_isAt_0 : decode c_M_isAt 0 = .ok (.aload_n 0, 1) := by decide +kernel
theorem d_M_isAt_1 : decode c_M_isAt 1 = .ok (.getfield 25, 3) := by decide +kernel
theorem d_M_isAt_4 : decode c_M_isAt 4 = .ok (.iload_n 1, 1) := by decide +kernel
theorem d_M_isAt_5 : decode c_M_isAt 5 = .ok (.iaload, 1) := by decide +kernel
theorem d_M_isAt_6 : decode c_M_isAt 6 = .ok (.aload_n 0, 1) := by decide +kernel
theorem d_M_isAt_7 : decode c_M_isAt 7 = .ok (.getfield 22, 3) := by decide +kernel
theorem d_M_isAt_10 : decode c_M_isAt 10 = .ok (.iload_n 1, 1) := by decide +kernel
theorem d_M_isAt_11 : decode c_M_isAt 11 = .ok (.iaload, 1) := by decide +kernel
theorem d_M_isAt_12 : decode c_M_isAt 12 = .ok (.isub, 1) := by decide +kernel
theorem d_M_isAt_13 : decode c_M_isAt 13 = .ok (.aload_n 0, 1) := by decide +kernel
theorem d_M_isAt_14 : decode c_M_isAt 14 = .ok (.getfield 76, 3) := by decide +kernel
theorem d_M_isAt_17 : decode c_M_isAt 17 = .ok (.aload_n 0, 1) := by decide +kernel
theorem d_M_isAt_18 : decode c_M_isAt 18 = .ok (.getfield 86, 3) := by decide +kernel
theorem d_M_isAt_21 : decode c_M_isAt 21 = .ok (.isub, 1) := by decide +kernel
theorem d_M_isAt_22 : decode c_M_isAt 22 = .ok (.if_icmp .ne 7, 3) := by decide +kernel
theorem d_M_isAt_25 : decode c_M_isAt 25 = .ok (.iconst 1, 1) := by decide +kernel
theorem d_M_isAt_26 : decode c_M_isAt 26 = .ok (.goto 4, 3) := by decide +kernel
theorem d_M_isAt_29 : decode c_M_isAt 29 = .ok (.iconst 0, 1) := by decide +kernel
theorem d_M_isAt_30 : decode c_M_isAt 30 = .ok (.istore_n 2, 1) := by decide +kernel
theorem d_M_isAt_31 : decode c_M_isAt 31 = .ok (.iconst 0, 1) := by decide +kernel
theorem d_M_isAt_32 : decode c_M_isAt 32 = .ok (.istore_n 3, 1) := by decide +kernel
theorem d_M_isAt_33 : decode c_M_isAt 33 = .ok (.iload_n 3, 1) := by decide +kernel
theorem d_M_isAt_34 : decode c_M_isAt 34 = .ok (.aload_n 0, 1) := by decide +kernel
theorem d_M_isAt_35 : decode c_M_isAt 35 = .ok (.getfield 76, 3) := by decide +kernel
theorem d_M_isAt_38 : decode c_M_isAt 38 = .ok (.aload_n 0, 1) := by decide +kernel
theorem d_M_isAt_39 : decode c_M_isAt 39 = .ok (.getfield 86, 3) := by decide +kernel
theorem d_M_isAt_42 : decode c_M_isAt 42 = .ok (.isub, 1) := by decide +kernel
theorem d_M_isAt_43 : decode c_M_isAt 43 = .ok (.if_icmp .ge 46, 3) := by decide +kernel
theorem d_M_isAt_46 : decode c_M_isAt 46 = .ok (.iload_n 2, 1) := by decide +kernel
theorem d_M_isAt_47 : decode c_M_isAt 47 = .ok (.ifCond .eq 42, 3) := by decide +kernel
theorem d_M_isAt_50 : decode c_M_isAt 50 = .ok (.aload_n 0, 1) := by decide +kernel
theorem d_M_isAt_51 : decode c_M_isAt 51 = .ok (.getfield 19, 3) := by decide +kernel
theorem d_M_isAt_54 : decode c_M_isAt 54 = .ok (.aload_n 0, 1) := by decide +kernel
theorem d_M_isAt_55 : decode c_M_isAt 55 = .ok (.getfield 22, 3) := by decide +kernel
theorem d_M_isAt_58 : decode c_M_isAt 58 = .ok (.iload_n 1, 1) := by decide +kernel
theorem d_M_isAt_59 : decode c_M_isAt 59 = .ok (.iaload, 1) := by decide +kernel
theorem d_M_isAt_60 : decode c_M_isAt 60 = .ok (.iload_n 3, 1) := by decide +kernel
theorem d_M_isAt_61 : decode c_M_isAt 61 = .ok (.iadd, 1) := by decide +kernel
theorem d_M_isAt_62 : decode c_M_isAt 62 = .ok (.iaload, 1) := by decide +kernel
theorem d_M_isAt_63 : decode c_M_isAt 63 = .ok (.aload_n 0, 1) := by decide +kernel
theorem d_M_isAt_64 : decode c_M_isAt 64 = .ok (.getfield 19, 3) := by decide +kernel
theorem d_M_isAt_67 : decode c_M_isAt 67 = .ok (.aload_n 0, 1) := by decide +kernel
theorem d_M_isAt_68 : decode c_M_isAt 68 = .ok (.getfield 86, 3) := by decide +kernel
theorem d_M_isAt_71 : decode c_M_isAt 71 = .ok (.iload_n 3, 1) := by decide +kernel
theorem d_M_isAt_72 : decode c_M_isAt 72 = .ok (.iadd, 1) := by decide +kernel
theorem d_M_isAt_73 : decode c_M_isAt 73 = .ok (.iaload, 1) := by decide +kernel
theorem d_M_isAt_74 : decode c_M_isAt 74 = .ok (.if_icmp .ne 7, 3) := by decide +kernel
theorem d_M_isAt_77 : decode c_M_isAt 77 = .ok (.iconst 1, 1) := by decide +kernel
theorem d_M_isAt_78 : decode c_M_isAt 78 = .ok (.goto 4, 3) := by decide +kernel
theorem d_M_isAt_81 : decode c_M_isAt 81 = .ok (.iconst 0, 1) := by decide +kernel
theorem d_M_isAt_82 : decode c_M_isAt 82 = .ok (.istore_n 2, 1) := by decide +kernel
theorem d_M_isAt_83 : decode c_M_isAt 83 = .ok (.iinc 3 1, 3) := by decide +kernel
theorem d_M_isAt_86 : decode c_M_isAt 86 = .ok (.goto (-53), 3) := by decide +kernel
theorem d_M_isAt_89 : decode c_M_isAt 89 = .ok (.iload_n 2, 1) := by decide +kernel
theorem d_M_isAt_90 : decode c_M_isAt 90 = .ok (.ireturn, 1) := by decide +kernel
theorem d_M_comma_0 : decode c_M_comma 0 = .ok (.aload_n 0, 1) := by decide +kernel
theorem d_M_comma_1 : decode c_M_comma 1 = .ok (.bipush 44, 2) := by decide +kernel
theorem d_M_comma_3 : decode c_M_comma 3 = .ok (.invokevirtual 109, 3) := by decide +kernel
theorem d_M_comma_6 : decode c_M_comma 6 = .ok (.ifCond .ne 5, 3) := by decide +kernel
theorem d_M_comma_9 : decode c_M_comma 9 = .ok (.iconst 0, 1) := by decide +kernel
theorem d_M_comma_10 : decode c_M_comma 10 = .ok (.ireturn, 1) := by decide +kernel
theorem d_M_comma_11 : decode c_M_comma 11 = .ok (.aload_n 0, 1) := by decide +kernel
theorem d_M_comma_12 : decode c_M_comma 12 = .ok (.invokevirtual 112, 3) := by decide +kernel
theorem d_M_comma_15 : decode c_M_comma 15 = .ok (.aload_n 0, 1) := by decide +kernel
theorem d_M_comma_16 : decode c_M_comma 16 = .ok (.getfield 70, 3) := by decide +kernel
theorem d_M_comma_19 : decode c_M_comma 19 = .ok (.ifCond .ne 7, 3) := by decide +kernel
theorem d_M_comma_22 : decode c_M_comma 22 = .ok (.iconst 1, 1) := by decide +kernel
theorem d_M_comma_23 : decode c_M_comma 23 = .ok (.goto 4, 3) := by decide +kernel
theorem d_M_comma_26 : decode c_M_comma 26 = .ok (.iconst 0, 1) := by decide +kernel
theorem d_M_comma_27 : decode c_M_comma 27 = .ok (.ireturn, 1) := by decide +kernel
theorem d_M_isSign_0 : decode c_M_isSign 0 = .ok (.aload_n 0, 1) := by decide +kernel
theorem d_M_isSign_1 : decode c_M_isSign 1 = .ok (.getfield 70, 3) := by decide +kernel
theorem d_M_isSign_4 : decode c_M_isSign 4 = .ok (.ifCond .ne 23, 3) := by decide +kernel
theorem d_M_isSign_7 : decode c_M_isSign 7 = .ok (.aload_n 0, 1) := by decide +kernel
theorem d_M_isSign_8 : decode c_M_isSign 8 = .ok (.getfield 92, 3) := by decide +kernel
theorem d_M_isSign_11 : decode c_M_isSign 11 = .ok (.iconst 2, 1) := by decide +kernel
theorem d_M_isSign_12 : decode c_M_isSign 12 = .ok (.if_icmp .ne 15, 3) := by decide +kernel
theorem d_M_isSign_15 : decode c_M_isSign 15 = .ok (.aload_n 0, 1) := by decide +kernel
theorem d_M_isSign_16 : decode c_M_isSign 16 = .ok (.getfield 102, 3) := by decide +kernel
theorem d_M_isSign_19 : decode c_M_isSign 19 = .ok (.iload_n 1, 1) := by decide +kernel
theorem d_M_isSign_20 : decode c_M_isSign 20 = .ok (.if_icmp .ne 7, 3) := by decide +kernel
theorem d_M_isSign_23 : decode c_M_isSign 23 = .ok (.iconst 1, 1) := by decide +kernel
theorem d_M_isSign_24 : decode c_M_isSign 24 = .ok (.goto 4, 3) := by decide +kernel
theorem d_M_isSign_27 : decode c_M_isSign 27 = .ok (.iconst 0, 1) := by decide +kernel
theorem d_M_isSign_28 : decode c_M_isSign 28 = .ok (.ireturn, 1) := by decide +kernel
theorem d_M_readRule_0 : decode c_M_readRule 0 = .ok (.aload_n 0, 1) := by decide +kernel
theorem d_M_readRule_1 : decode c_M_readRule 1 = .ok (.invokevirtual 139, 3) := by decide +kernel
theorem d_M_readRule_4 : decode c_M_readRule 4 = .ok (.istore_n 1, 1) := by decide +kernel
theorem d_M_readRule_5 : decode c_M_readRule 5 = .ok (.aload_n 0, 1) := by decide +kernel
theorem d_M_readRule_6 : decode c_M_readRule 6 = .ok (.iload_n 1, 1) := by decide +kernel
theorem d_M_readRule_7 : decode c_M_readRule 7 = .ok (.invokevirtual 142, 3) := by decide +kernel
theorem d_M_readRule_10 : decode c_M_readRule 10 = .ok (.istore_n 2, 1) := by decide +kernel
theorem d_M_readRule_11 : decode c_M_readRule 11 = .ok (.aload_n 0, 1) := by decide +kernel
theorem d_M_readRule_12 : decode c_M_readRule 12 = .ok (.bipush 58, 2) := by decide +kernel
theorem d_M_readRule_14 : decode c_M_readRule 14 = .ok (.invokevirtual 145, 3) := by decide +kernel
theorem d_M_readRule_17 : decode c_M_readRule 17 = .ok (.aload_n 0, 1) := by decide +kernel
theorem d_M_readRule_18 : decode c_M_readRule 18 = .ok (.bipush 62, 2) := by decide +kernel
theorem d_M_readRule_20 : decode c_M_readRule 20 = .ok (.invokevirtual 109, 3) := by decide +kernel
theorem d_M_readRule_23 : decode c_M_readRule 23 = .ok (.ifCond .ne 8, 3) := by decide +kernel
theorem d_M_readRule_26 : decode c_M_readRule 26 = .ok (.aload_n 0, 1) := by decide +kernel
theorem d_M_readRule_27 : decode c_M_readRule 27 = .ok (.iload_n 2, 1) := by decide +kernel
theorem d_M_readRule_28 : decode c_M_readRule 28 = .ok (.invokevirtual 148, 3) := by decide +kernel
theorem d_M_readRule_31 : decode c_M_readRule 31 = .ok (.aload_n 0, 1) := by decide +kernel
theorem d_M_readRule_32 : decode c_M_readRule 32 = .ok (.bipush 62, 2) := by decide +kernel
theorem d_M_readRule_34 : decode c_M_readRule 34 = .ok (.invokevirtual 145, 3) := by decide +kernel
theorem d_M_readRule_37 : decode c_M_readRule 37 = .ok (.aload_n 0, 1) := by decide +kernel
theorem d_M_readRule_38 : decode c_M_readRule 38 = .ok (.invokevirtual 139, 3) := by decide +kernel
theorem d_M_readRule_41 : decode c_M_readRule 41 = .ok (.istore_n 3, 1) := by decide +kernel
theorem d_M_readRule_42 : decode c_M_readRule 42 = .ok (.aload_n 0, 1) := by decide +kernel
theorem d_M_readRule_43 : decode c_M_readRule 43 = .ok (.getfield 70, 3) := by decide +kernel
theorem d_M_readRule_46 : decode c_M_readRule 46 = .ok (.ifCond .le 4, 3) := by decide +kernel
theorem d_M_readRule_49 : decode c_M_readRule 49 = .ok (.return_, 1) := by decide +kernel
theorem d_M_readRule_50 : decode c_M_readRule 50 = .ok (.aload_n 0, 1) := by decide +kernel
theorem d_M_readRule_51 : decode c_M_readRule 51 = .ok (.getfield 40, 3) := by decide +kernel
theorem d_M_readRule_54 : decode c_M_readRule 54 = .ok (.iload_n 2, 1) := by decide +kernel
theorem d_M_readRule_55 : decode c_M_readRule 55 = .ok (.iload_n 3, 1) := by decide +kernel
theorem d_M_readRule_56 : decode c_M_readRule 56 = .ok (.iastore, 1) := by decide +kernel
theorem d_M_readRule_57 : decode c_M_readRule 57 = .ok (.aload_n 0, 1) := by decide +kernel
theorem d_M_readRule_58 : decode c_M_readRule 58 = .ok (.dup, 1) := by decide +kernel
theorem d_M_readRule_59 : decode c_M_readRule 59 = .ok (.getfield 151, 3) := by decide +kernel
theorem d_M_readRule_62 : decode c_M_readRule 62 = .ok (.iconst 1, 1) := by decide +kernel
theorem d_M_readRule_63 : decode c_M_readRule 63 = .ok (.iadd, 1) := by decide +kernel
theorem d_M_readRule_64 : decode c_M_readRule 64 = .ok (.putfield 151, 3) := by decide +kernel
theorem d_M_readRule_67 : decode c_M_readRule 67 = .ok (.return_, 1) := by decide +kernel
theorem d_M_takeState_0 : decode c_M_takeState 0 = .ok (.aload_n 0, 1) := by decide +kernel
theorem d_M_takeState_1 : decode c_M_takeState 1 = .ok (.iconst 0, 1) := by decide +kernel
theorem d_M_takeState_2 : decode c_M_takeState 2 = .ok (.iconst 0, 1) := by decide +kernel
theorem d_M_takeState_3 : decode c_M_takeState 3 = .ok (.invokevirtual 124, 3) := by decide +kernel
theorem d_M_takeState_6 : decode c_M_takeState 6 = .ok (.istore_n 1, 1) := by decide +kernel
theorem d_M_takeState_7 : decode c_M_takeState 7 = .ok (.aload_n 0, 1) := by decide +kernel
theorem d_M_takeState_8 : decode c_M_takeState 8 = .ok (.getfield 70, 3) := by decide +kernel
theorem d_M_takeState_11 : decode c_M_takeState 11 = .ok (.ifCond .le 5, 3) := by decide +kernel
theorem d_M_takeState_14 : decode c_M_takeState 14 = .ok (.iconst 0, 1) := by decide +kernel
theorem d_M_takeState_15 : decode c_M_takeState 15 = .ok (.ireturn, 1) := by decide +kernel
theorem d_M_takeState_16 : decode c_M_takeState 16 = .ok (.aload_n 0, 1) := by decide +kernel
theorem d_M_takeState_17 : decode c_M_takeState 17 = .ok (.invokevirtual 112, 3) := by decide +kernel
theorem d_M_takeState_20 : decode c_M_takeState 20 = .ok (.aload_n 0, 1) := by decide +kernel
theorem d_M_takeState_21 : decode c_M_takeState 21 = .ok (.getfield 31, 3) := by decide +kernel
theorem d_M_takeState_24 : decode c_M_takeState 24 = .ok (.iload_n 1, 1) := by decide +kernel
theorem d_M_takeState_25 : decode c_M_takeState 25 = .ok (.iaload, 1) := by decide +kernel
theorem d_M_takeState_26 : decode c_M_takeState 26 = .ok (.ireturn, 1) := by decide +kernel
theorem d_M_oldName_0 : decode c_M_oldName 0 = .ok (.aload_n 0, 1) := by decide +kernel
theorem d_M_oldName_1 : decode c_M_oldName 1 = .ok (.getfield 70, 3) := by decide +kernel
theorem d_M_oldName_4 : decode c_M_oldName 4 = .ok (.ifCond .le 5, 3) := by decide +kernel
theorem d_M_oldName_7 : decode c_M_oldName 7 = .ok (.iconst 0, 1) := by decide +kernel
theorem d_M_oldName_8 : decode c_M_oldName 8 = .ok (.ireturn, 1) := by decide +kernel
theorem d_M_oldName_9 : decode c_M_oldName 9 = .ok (.aload_n 0, 1) := by decide +kernel
theorem d_M_oldName_10 : decode c_M_oldName 10 = .ok (.getfield 92, 3) := by decide +kernel
theorem d_M_oldName_13 : decode c_M_oldName 13 = .ok (.iconst 1, 1) := by decide +kernel
theorem d_M_oldName_14 : decode c_M_oldName 14 = .ok (.if_icmp .ne 10, 3) := by decide +kernel
theorem d_M_oldName_17 : decode c_M_oldName 17 = .ok (.aload_n 0, 1) := by decide +kernel
theorem d_M_oldName_18 : decode c_M_oldName 18 = .ok (.invokevirtual 121, 3) := by decide +kernel
theorem d_M_oldName_21 : decode c_M_oldName 21 = .ok (.goto 4, 3) := by decide +kernel
theorem d_M_oldName_24 : decode c_M_oldName 24 = .ok (.iconst (-1), 1) := by decide +kernel
theorem d_M_oldName_25 : decode c_M_oldName 25 = .ok (.istore_n 3, 1) := by decide +kernel
theorem d_M_oldName_26 : decode c_M_oldName 26 = .ok (.aload_n 0, 1) := by decide +kernel
theorem d_M_oldName_27 : decode c_M_oldName 27 = .ok (.getfield 92, 3) := by decide +kernel
theorem d_M_oldName_30 : decode c_M_oldName 30 = .ok (.iconst 1, 1) := by decide +kernel
theorem d_M_oldName_31 : decode c_M_oldName 31 = .ok (.if_icmp .eq 15, 3) := by decide +kernel
theorem d_M_oldName_34 : decode c_M_oldName 34 = .ok (.aload_n 0, 1) := by decide +kernel
theorem d_M_oldName_35 : decode c_M_oldName 35 = .ok (.iconst 2, 1) := by decide +kernel
theorem d_M_oldName_36 : decode c_M_oldName 36 = .ok (.aload_n 0, 1) := by decide +kernel
theorem d_M_oldName_37 : decode c_M_oldName 37 = .ok (.getfield 86, 3) := by decide +kernel
theorem d_M_oldName_40 : decode c_M_oldName 40 = .ok (.invokevirtual 105, 3) := by decide +kernel
theorem d_M_oldName_43 : decode c_M_oldName 43 = .ok (.goto 49, 3) := by decide +kernel
theorem d_M_oldName_46 : decode c_M_oldName 46 = .ok (.iload_n 3, 1) := by decide +kernel
theorem d_M_oldName_47 : decode c_M_oldName 47 = .ok (.ifCond .ge 15, 3) := by decide +kernel
theorem d_M_oldName_50 : decode c_M_oldName 50 = .ok (.aload_n 0, 1) := by decide +kernel
theorem d_M_oldName_51 : decode c_M_oldName 51 = .ok (.iconst 5, 1) := by decide +kernel
theorem d_M_oldName_52 : decode c_M_oldName 52 = .ok (.aload_n 0, 1) := by decide +kernel
theorem d_M_oldName_53 : decode c_M_oldName 53 = .ok (.getfield 86, 3) := by decide +kernel
theorem d_M_oldName_56 : decode c_M_oldName 56 = .ok (.invokevirtual 105, 3) := by decide +kernel
theorem d_M_oldName_59 : decode c_M_oldName 59 = .ok (.goto 33, 3) := by decide +kernel
theorem d_M_oldName_62 : decode c_M_oldName 62 = .ok (.aload_n 0, 1) := by decide +kernel
theorem d_M_oldName_63 : decode c_M_oldName 63 = .ok (.getfield 28, 3) := by decide +kernel
theorem d_M_oldName_66 : decode c_M_oldName 66 = .ok (.iload_n 3, 1) := by decide +kernel
theorem d_M_oldName_67 : decode c_M_oldName 67 = .ok (.iaload, 1) := by decide +kernel
theorem d_M_oldName_68 : decode c_M_oldName 68 = .ok (.iload_n 1, 1) := by decide +kernel
theorem d_M_oldName_69 : decode c_M_oldName 69 = .ok (.if_icmp .eq 23, 3) := by decide +kernel
theorem d_M_oldName_72 : decode c_M_oldName 72 = .ok (.aload_n 0, 1) := by decide +kernel
theorem d_M_oldName_73 : decode c_M_oldName 73 = .ok (.getfield 28, 3) := by decide +kernel
theorem d_M_oldName_76 : decode c_M_oldName 76 = .ok (.iload_n 3, 1) := by decide +kernel
theorem d_M_oldName_77 : decode c_M_oldName 77 = .ok (.iaload, 1) := by decide +kernel
theorem d_M_oldName_78 : decode c_M_oldName 78 = .ok (.iload_n 2, 1) := by decide +kernel
theorem d_M_oldName_79 : decode c_M_oldName 79 = .ok (.if_icmp .eq 13, 3) := by decide +kernel
theorem d_M_oldName_82 : decode c_M_oldName 82 = .ok (.aload_n 0, 1) := by decide +kernel
theorem d_M_oldName_83 : decode c_M_oldName 83 = .ok (.bipush 6, 2) := by decide +kernel
theorem d_M_oldName_85 : decode c_M_oldName 85 = .ok (.aload_n 0, 1) := by decide +kernel
theorem d_M_oldName_86 : decode c_M_oldName 86 = .ok (.getfield 86, 3) := by decide +kernel
theorem d_M_oldName_89 : decode c_M_oldName 89 = .ok (.invokevirtual 105, 3) := by decide +kernel
theorem d_M_oldName_92 : decode c_M_oldName 92 = .ok (.aload_n 0, 1) := by decide +kernel
theorem d_M_oldName_93 : decode c_M_oldName 93 = .ok (.getfield 70, 3) := by decide +kernel
theorem d_M_oldName_96 : decode c_M_oldName 96 = .ok (.ifCond .le 7, 3) := by decide +kernel
theorem d_M_oldName_99 : decode c_M_oldName 99 = .ok (.iconst 0, 1) := by decide +kernel
theorem d_M_oldName_100 : decode c_M_oldName 100 = .ok (.goto 4, 3) := by decide +kernel
theorem d_M_oldName_103 : decode c_M_oldName 103 = .ok (.iload_n 3, 1) := by decide +kernel
theorem d_M_oldName_104 : decode c_M_oldName 104 = .ok (.ireturn, 1) := by decide +kernel
theorem d_M_takePair_0 : decode c_M_takePair 0 = .ok (.aload_n 0, 1) := by decide +kernel
theorem d_M_takePair_1 : decode c_M_takePair 1 = .ok (.iconst 1, 1) := by decide +kernel
theorem d_M_takePair_2 : decode c_M_takePair 2 = .ok (.iconst 2, 1) := by decide +kernel
theorem d_M_takePair_3 : decode c_M_takePair 3 = .ok (.invokevirtual 124, 3) := by decide +kernel
theorem d_M_takePair_6 : decode c_M_takePair 6 = .ok (.istore_n 2, 1) := by decide +kernel
theorem d_M_takePair_7 : decode c_M_takePair 7 = .ok (.aload_n 0, 1) := by decide +kernel
theorem d_M_takePair_8 : decode c_M_takePair 8 = .ok (.getfield 70, 3) := by decide +kernel
theorem d_M_takePair_11 : decode c_M_takePair 11 = .ok (.ifCond .le 5, 3) := by decide +kernel
theorem d_M_takePair_14 : decode c_M_takePair 14 = .ok (.iconst 0, 1) := by decide +kernel
theorem d_M_takePair_15 : decode c_M_takePair 15 = .ok (.ireturn, 1) := by decide +kernel
theorem d_M_takePair_16 : decode c_M_takePair 16 = .ok (.bipush 24, 2) := by decide +kernel
theorem d_M_takePair_18 : decode c_M_takePair 18 = .ok (.iload_n 1, 1) := by decide +kernel
theorem d_M_takePair_19 : decode c_M_takePair 19 = .ok (.imul, 1) := by decide +kernel
theorem d_M_takePair_20 : decode c_M_takePair 20 = .ok (.aload_n 0, 1) := by decide +kernel
theorem d_M_takePair_21 : decode c_M_takePair 21 = .ok (.getfield 28, 3) := by decide +kernel
theorem d_M_takePair_24 : decode c_M_takePair 24 = .ok (.iload_n 2, 1) := by decide +kernel
theorem d_M_takePair_25 : decode c_M_takePair 25 = .ok (.iaload, 1) := by decide +kernel
theorem d_M_takePair_26 : decode c_M_takePair 26 = .ok (.iconst 1, 1) := by decide +kernel
theorem d_M_takePair_27 : decode c_M_takePair 27 = .ok (.if_icmp .ne 7, 3) := by decide +kernel
theorem d_M_takePair_30 : decode c_M_takePair 30 = .ok (.iconst 0, 1) := by decide +kernel
theorem d_M_takePair_31 : decode c_M_takePair 31 = .ok (.goto 5, 3) := by decide +kernel
theorem d_M_takePair_34 : decode c_M_takePair 34 = .ok (.bipush 8, 2) := by decide +kernel
theorem d_M_takePair_36 : decode c_M_takePair 36 = .ok (.iadd, 1) := by decide +kernel
theorem d_M_takePair_37 : decode c_M_takePair 37 = .ok (.aload_n 0, 1) := by decide +kernel
theorem d_M_takePair_38 : decode c_M_takePair 38 = .ok (.getfield 31, 3) := by decide +kernel
theorem d_M_takePair_41 : decode c_M_takePair 41 = .ok (.iload_n 2, 1) := by decide +kernel
theorem d_M_takePair_42 : decode c_M_takePair 42 = .ok (.iaload, 1) := by decide +kernel
theorem d_M_takePair_43 : decode c_M_takePair 43 = .ok (.iadd, 1) := by decide +kernel
theorem d_M_takePair_44 : decode c_M_takePair 44 = .ok (.istore_n 3, 1) := by decide +kernel
theorem d_M_takePair_45 : decode c_M_takePair 45 = .ok (.aload_n 0, 1) := by decide +kernel
theorem d_M_takePair_46 : decode c_M_takePair 46 = .ok (.getfield 40, 3) := by decide +kernel
theorem d_M_takePair_49 : decode c_M_takePair 49 = .ok (.iload_n 3, 1) := by decide +kernel
theorem d_M_takePair_50 : decode c_M_takePair 50 = .ok (.iaload, 1) := by decide +kernel
theorem d_M_takePair_51 : decode c_M_takePair 51 = .ok (.iconst (-1), 1) := by decide +kernel
theorem d_M_takePair_52 : decode c_M_takePair 52 = .ok (.if_icmp .eq 16, 3) := by decide +kernel
theorem d_M_takePair_55 : decode c_M_takePair 55 = .ok (.aload_n 0, 1) := by decide +kernel
theorem d_M_takePair_56 : decode c_M_takePair 56 = .ok (.bipush 7, 2) := by decide +kernel
theorem d_M_takePair_58 : decode c_M_takePair 58 = .ok (.aload_n 0, 1) := by decide +kernel
theorem d_M_takePair_59 : decode c_M_takePair 59 = .ok (.getfield 86, 3) := by decide +kernel
theorem d_M_takePair_62 : decode c_M_takePair 62 = .ok (.invokevirtual 105, 3) := by decide +kernel
theorem d_M_takePair_65 : decode c_M_takePair 65 = .ok (.goto 7, 3) := by decide +kernel
theorem d_M_takePair_68 : decode c_M_takePair 68 = .ok (.aload_n 0, 1) := by decide +kernel
theorem d_M_takePair_69 : decode c_M_takePair 69 = .ok (.invokevirtual 112, 3) := by decide +kernel
theorem d_M_takePair_72 : decode c_M_takePair 72 = .ok (.iload_n 3, 1) := by decide +kernel
theorem d_M_takePair_73 : decode c_M_takePair 73 = .ok (.ireturn, 1) := by decide +kernel
theorem d_M_sign_0 : decode c_M_sign 0 = .ok (.aload_n 0, 1) := by decide +kernel
theorem d_M_sign_1 : decode c_M_sign 1 = .ok (.getfield 70, 3) := by decide +kernel
theorem d_M_sign_4 : decode c_M_sign 4 = .ok (.ifCond .le 4, 3) := by decide +kernel
theorem d_M_sign_7 : decode c_M_sign 7 = .ok (.return_, 1) := by decide +kernel
theorem d_M_sign_8 : decode c_M_sign 8 = .ok (.aload_n 0, 1) := by decide +kernel
theorem d_M_sign_9 : decode c_M_sign 9 = .ok (.iload_n 1, 1) := by decide +kernel
theorem d_M_sign_10 : decode c_M_sign 10 = .ok (.invokevirtual 109, 3) := by decide +kernel
theorem d_M_sign_13 : decode c_M_sign 13 = .ok (.ifCond .ne 15, 3) := by decide +kernel
theorem d_M_sign_16 : decode c_M_sign 16 = .ok (.aload_n 0, 1) := by decide +kernel
theorem d_M_sign_17 : decode c_M_sign 17 = .ok (.iconst 2, 1) := by decide +kernel
theorem d_M_sign_18 : decode c_M_sign 18 = .ok (.aload_n 0, 1) := by decide +kernel
theorem d_M_sign_19 : decode c_M_sign 19 = .ok (.getfield 86, 3) := by decide +kernel
theorem d_M_sign_22 : decode c_M_sign 22 = .ok (.invokevirtual 105, 3) := by decide +kernel
theorem d_M_sign_25 : decode c_M_sign 25 = .ok (.goto 7, 3) := by decide +kernel
theorem d_M_sign_28 : decode c_M_sign 28 = .ok (.aload_n 0, 1) := by decide +kernel
theorem d_M_sign_29 : decode c_M_sign 29 = .ok (.invokevirtual 112, 3) := by decide +kernel
theorem d_M_sign_32 : decode c_M_sign 32 = .ok (.return_, 1) := by decide +kernel
theorem d_M_readActions_0 : decode c_M_readActions 0 = .ok (.iconst 0, 1) := by decide +kernel
theorem d_M_readActions_1 : decode c_M_readActions 1 = .ok (.istore_n 2, 1) := by decide +kernel
theorem d_M_readActions_2 : decode c_M_readActions 2 = .ok (.aload_n 0, 1) := by decide +kernel
theorem d_M_readActions_3 : decode c_M_readActions 3 = .ok (.getfield 70, 3) := by decide +kernel
theorem d_M_readActions_6 : decode c_M_readActions 6 = .ok (.ifCond .ne 7, 3) := by decide +kernel
theorem d_M_readActions_9 : decode c_M_readActions 9 = .ok (.iconst 1, 1) := by decide +kernel
theorem d_M_readActions_10 : decode c_M_readActions 10 = .ok (.goto 4, 3) := by decide +kernel
theorem d_M_readActions_13 : decode c_M_readActions 13 = .ok (.iconst 0, 1) := by decide +kernel
theorem d_M_readActions_14 : decode c_M_readActions 14 = .ok (.istore_n 3, 1) := by decide +kernel
theorem d_M_readActions_15 : decode c_M_readActions 15 = .ok (.iload_n 3, 1) := by decide +kernel
theorem d_M_readActions_16 : decode c_M_readActions 16 = .ok (.ifCond .eq 171, 3) := by decide +kernel
theorem d_M_readActions_19 : decode c_M_readActions 19 = .ok (.aload_n 0, 1) := by decide +kernel
theorem d_M_readActions_20 : decode c_M_readActions 20 = .ok (.bipush 6, 2) := by decide +kernel
theorem d_M_readActions_22 : decode c_M_readActions 22 = .ok (.invokevirtual 136, 3) := by decide +kernel
theorem d_M_readActions_25 : decode c_M_readActions 25 = .ok (.ifCond .ne 21, 3) := by decide +kernel
theorem d_M_readActions_28 : decode c_M_readActions 28 = .ok (.aload_n 0, 1) := by decide +kernel
theorem d_M_readActions_29 : decode c_M_readActions 29 = .ok (.bipush 7, 2) := by decide +kernel
theorem d_M_readActions_31 : decode c_M_readActions 31 = .ok (.invokevirtual 136, 3) := by decide +kernel
theorem d_M_readActions_34 : decode c_M_readActions 34 = .ok (.ifCond .ne 12, 3) := by decide +kernel
theorem d_M_readActions_37 : decode c_M_readActions 37 = .ok (.aload_n 0, 1) := by decide +kernel
theorem d_M_readActions_38 : decode c_M_readActions 38 = .ok (.bipush 8, 2) := by decide +kernel
theorem d_M_readActions_40 : decode c_M_readActions 40 = .ok (.invokevirtual 136, 3) := by decide +kernel
theorem d_M_readActions_43 : decode c_M_readActions 43 = .ok (.ifCond .eq 7, 3) := by decide +kernel
theorem d_M_readActions_46 : decode c_M_readActions 46 = .ok (.iconst 1, 1) := by decide +kernel
theorem d_M_readActions_47 : decode c_M_readActions 47 = .ok (.goto 4, 3) := by decide +kernel
theorem d_M_readActions_50 : decode c_M_readActions 50 = .ok (.iconst 0, 1) := by decide +kernel
theorem d_M_readActions_51 : decode c_M_readActions 51 = .ok (.istore 4, 2) := by decide +kernel
theorem d_M_readActions_53 : decode c_M_readActions 53 = .ok (.aload_n 0, 1) := by decide +kernel
theorem d_M_readActions_54 : decode c_M_readActions 54 = .ok (.bipush 6, 2) := by decide +kernel
theorem d_M_readActions_56 : decode c_M_readActions 56 = .ok (.invokevirtual 136, 3) := by decide +kernel
theorem d_M_readActions_59 : decode c_M_readActions 59 = .ok (.istore 5, 2) := by decide +kernel
theorem d_M_readActions_61 : decode c_M_readActions 61 = .ok (.aload_n 0, 1) := by decide +kernel
theorem d_M_readActions_62 : decode c_M_readActions 62 = .ok (.bipush 7, 2) := by decide +kernel
theorem d_M_readActions_64 : decode c_M_readActions 64 = .ok (.invokevirtual 136, 3) := by decide +kernel
theorem d_M_readActions_67 : decode c_M_readActions 67 = .ok (.ifCond .eq 8, 3) := by decide +kernel
theorem d_M_readActions_70 : decode c_M_readActions 70 = .ok (.bipush 100, 2) := by decide +kernel
theorem d_M_readActions_72 : decode c_M_readActions 72 = .ok (.goto 5, 3) := by decide +kernel
theorem d_M_readActions_75 : decode c_M_readActions 75 = .ok (.bipush 101, 2) := by decide +kernel
theorem d_M_readActions_77 : decode c_M_readActions 77 = .ok (.istore 6, 2) := by decide +kernel
theorem d_M_readActions_79 : decode c_M_readActions 79 = .ok (.iload 4, 2) := by decide +kernel
theorem d_M_readActions_81 : decode c_M_readActions 81 = .ok (.ifCond .ne 15, 3) := by decide +kernel
theorem d_M_readActions_84 : decode c_M_readActions 84 = .ok (.aload_n 0, 1) := by decide +kernel
theorem d_M_readActions_85 : decode c_M_readActions 85 = .ok (.iconst 2, 1) := by decide +kernel
theorem d_M_readActions_86 : decode c_M_readActions 86 = .ok (.aload_n 0, 1) := by decide +kernel
theorem d_M_readActions_87 : decode c_M_readActions 87 = .ok (.getfield 86, 3) := by decide +kernel
theorem d_M_readActions_90 : decode c_M_readActions 90 = .ok (.invokevirtual 105, 3) := by decide +kernel
theorem d_M_readActions_93 : decode c_M_readActions 93 = .ok (.goto 17, 3) := by decide +kernel
theorem d_M_readActions_96 : decode c_M_readActions 96 = .ok (.iload_n 2, 1) := by decide +kernel
theorem d_M_readActions_97 : decode c_M_readActions 97 = .ok (.iconst 4, 1) := by decide +kernel
theorem d_M_readActions_98 : decode c_M_readActions 98 = .ok (.if_icmp .ne 12, 3) := by decide +kernel
theorem d_M_readActions_101 : decode c_M_readActions 101 = .ok (.aload_n 0, 1) := by decide +kernel
theorem d_M_readActions_102 : decode c_M_readActions 102 = .ok (.iconst 3, 1) := by decide +kernel
theorem d_M_readActions_103 : decode c_M_readActions 103 = .ok (.aload_n 0, 1) := by decide +kernel
theorem d_M_readActions_104 : decode c_M_readActions 104 = .ok (.getfield 86, 3) := by decide +kernel
theorem d_M_readActions_107 : decode c_M_readActions 107 = .ok (.invokevirtual 105, 3) := by decide +kernel
theorem d_M_readActions_110 : decode c_M_readActions 110 = .ok (.aload_n 0, 1) := by decide +kernel
theorem d_M_readActions_111 : decode c_M_readActions 111 = .ok (.getfield 70, 3) := by decide +kernel
theorem d_M_readActions_114 : decode c_M_readActions 114 = .ok (.ifCond .ne 7, 3) := by decide +kernel
theorem d_M_readActions_117 : decode c_M_readActions 117 = .ok (.aload_n 0, 1) := by decide +kernel
theorem d_M_readActions_118 : decode c_M_readActions 118 = .ok (.invokevirtual 112, 3) := by decide +kernel
theorem d_M_readActions_121 : decode c_M_readActions 121 = .ok (.iload 5, 2) := by decide +kernel
theorem d_M_readActions_123 : decode c_M_readActions 123 = .ok (.ifCond .eq 34, 3) := by decide +kernel
theorem d_M_readActions_126 : decode c_M_readActions 126 = .ok (.aload_n 0, 1) := by decide +kernel
theorem d_M_readActions_127 : decode c_M_readActions 127 = .ok (.getfield 70, 3) := by decide +kernel
theorem d_M_readActions_130 : decode c_M_readActions 130 = .ok (.ifCond .ne 27, 3) := by decide +kernel
theorem d_M_readActions_133 : decode c_M_readActions 133 = .ok (.aload_n 0, 1) := by decide +kernel
theorem d_M_readActions_134 : decode c_M_readActions 134 = .ok (.getfield 31, 3) := by decide +kernel
theorem d_M_readActions_137 : decode c_M_readActions 137 = .ok (.aload_n 0, 1) := by decide +kernel
theorem d_M_readActions_138 : decode c_M_readActions 138 = .ok (.iconst 2, 1) := by decide +kernel
theorem d_M_readActions_139 : decode c_M_readActions 139 = .ok (.iconst 2, 1) := by decide +kernel
theorem d_M_readActions_140 : decode c_M_readActions 140 = .ok (.invokevirtual 124, 3) := by decide +kernel
theorem d_M_readActions_143 : decode c_M_readActions 143 = .ok (.iaload, 1) := by decide +kernel
theorem d_M_readActions_144 : decode c_M_readActions 144 = .ok (.istore 6, 2) := by decide +kernel
theorem d_M_readActions_146 : decode c_M_readActions 146 = .ok (.aload_n 0, 1) := by decide +kernel
theorem d_M_readActions_147 : decode c_M_readActions 147 = .ok (.getfield 70, 3) := by decide +kernel
theorem d_M_readActions_150 : decode c_M_readActions 150 = .ok (.ifCond .ne 7, 3) := by decide +kernel
theorem d_M_readActions_153 : decode c_M_readActions 153 = .ok (.aload_n 0, 1) := by decide +kernel
theorem d_M_readActions_154 : decode c_M_readActions 154 = .ok (.invokevirtual 112, 3) := by decide +kernel
theorem d_M_readActions_157 : decode c_M_readActions 157 = .ok (.aload_n 0, 1) := by decide +kernel
theorem d_M_readActions_158 : decode c_M_readActions 158 = .ok (.getfield 70, 3) := by decide +kernel
theorem d_M_readActions_161 : decode c_M_readActions 161 = .ok (.ifCond .ne 15, 3) := by decide +kernel
theorem d_M_readActions_164 : decode c_M_readActions 164 = .ok (.aload_n 0, 1) := by decide +kernel
theorem d_M_readActions_165 : decode c_M_readActions 165 = .ok (.getfield 43, 3) := by decide +kernel
theorem d_M_readActions_168 : decode c_M_readActions 168 = .ok (.iconst 4, 1) := by decide +kernel
theorem d_M_readActions_169 : decode c_M_readActions 169 = .ok (.iload_n 1, 1) := by decide +kernel
theorem d_M_readActions_170 : decode c_M_readActions 170 = .ok (.imul, 1) := by decide +kernel
theorem d_M_readActions_171 : decode c_M_readActions 171 = .ok (.iload_n 2, 1) := by decide +kernel
theorem d_M_readActions_172 : decode c_M_readActions 172 = .ok (.iadd, 1) := by decide +kernel
theorem d_M_readActions_173 : decode c_M_readActions 173 = .ok (.iload 6, 2) := by decide +kernel
theorem d_M_readActions_175 : decode c_M_readActions 175 = .ok (.iastore, 1) := by decide +kernel
theorem d_M_readActions_176 : decode c_M_readActions 176 = .ok (.iinc 2 1, 3) := by decide +kernel
theorem d_M_readActions_179 : decode c_M_readActions 179 = .ok (.aload_n 0, 1) := by decide +kernel
theorem d_M_readActions_180 : decode c_M_readActions 180 = .ok (.invokevirtual 132, 3) := by decide +kernel
theorem d_M_readActions_183 : decode c_M_readActions 183 = .ok (.istore_n 3, 1) := by decide +kernel
theorem d_M_readActions_184 : decode c_M_readActions 184 = .ok (.goto (-169), 3) := by decide +kernel
theorem d_M_readActions_187 : decode c_M_readActions 187 = .ok (.return_, 1) := by decide +kernel
theorem d_M_isWord_0 : decode c_M_isWord 0 = .ok (.aload_n 0, 1) := by decide +kernel
theorem d_M_isWord_1 : decode c_M_isWord 1 = .ok (.getfield 70, 3) := by decide +kernel
theorem d_M_isWord_4 : decode c_M_isWord 4 = .ok (.ifCond .ne 23, 3) := by decide +kernel
theorem d_M_isWord_7 : decode c_M_isWord 7 = .ok (.aload_n 0, 1) := by decide +kernel
theorem d_M_isWord_8 : decode c_M_isWord 8 = .ok (.getfield 92, 3) := by decide +kernel
theorem d_M_isWord_11 : decode c_M_isWord 11 = .ok (.iconst 3, 1) := by decide +kernel
theorem d_M_isWord_12 : decode c_M_isWord 12 = .ok (.if_icmp .ne 15, 3) := by decide +kernel
theorem d_M_isWord_15 : decode c_M_isWord 15 = .ok (.aload_n 0, 1) := by decide +kernel
theorem d_M_isWord_16 : decode c_M_isWord 16 = .ok (.getfield 102, 3) := by decide +kernel
theorem d_M_isWord_19 : decode c_M_isWord 19 = .ok (.iload_n 1, 1) := by decide +kernel
theorem d_M_isWord_20 : decode c_M_isWord 20 = .ok (.if_icmp .ne 7, 3) := by decide +kernel
theorem d_M_isWord_23 : decode c_M_isWord 23 = .ok (.iconst 1, 1) := by decide +kernel
theorem d_M_isWord_24 : decode c_M_isWord 24 = .ok (.goto 4, 3) := by decide +kernel
theorem d_M_isWord_27 : decode c_M_isWord 27 = .ok (.iconst 0, 1) := by decide +kernel
theorem d_M_isWord_28 : decode c_M_isWord 28 = .ok (.ireturn, 1) := by decide +kernel
theorem d_M_readNever_0 : decode c_M_readNever 0 = .ok (.aload_n 0, 1) := by decide +kernel
theorem d_M_readNever_1 : decode c_M_readNever 1 = .ok (.invokevirtual 139, 3) := by decide +kernel
theorem d_M_readNever_4 : decode c_M_readNever 4 = .ok (.istore_n 1, 1) := by decide +kernel
theorem d_M_readNever_5 : decode c_M_readNever 5 = .ok (.aload_n 0, 1) := by decide +kernel
theorem d_M_readNever_6 : decode c_M_readNever 6 = .ok (.iload_n 1, 1) := by decide +kernel
theorem d_M_readNever_7 : decode c_M_readNever 7 = .ok (.invokevirtual 142, 3) := by decide +kernel
theorem d_M_readNever_10 : decode c_M_readNever 10 = .ok (.istore_n 2, 1) := by decide +kernel
theorem d_M_readNever_11 : decode c_M_readNever 11 = .ok (.aload_n 0, 1) := by decide +kernel
theorem d_M_readNever_12 : decode c_M_readNever 12 = .ok (.getfield 70, 3) := by decide +kernel
theorem d_M_readNever_15 : decode c_M_readNever 15 = .ok (.ifCond .le 4, 3) := by decide +kernel
theorem d_M_readNever_18 : decode c_M_readNever 18 = .ok (.return_, 1) := by decide +kernel
theorem d_M_readNever_19 : decode c_M_readNever 19 = .ok (.aload_n 0, 1) := by decide +kernel
theorem d_M_readNever_20 : decode c_M_readNever 20 = .ok (.getfield 40, 3) := by decide +kernel
theorem d_M_readNever_23 : decode c_M_readNever 23 = .ok (.iload_n 2, 1) := by decide +kernel
theorem d_M_readNever_24 : decode c_M_readNever 24 = .ok (.bipush (-2), 2) := by decide +kernel
theorem d_M_readNever_26 : decode c_M_readNever 26 = .ok (.iastore, 1) := by decide +kernel
theorem d_M_readNever_27 : decode c_M_readNever 27 = .ok (.aload_n 0, 1) := by decide +kernel
theorem d_M_readNever_28 : decode c_M_readNever 28 = .ok (.dup, 1) := by decide +kernel
theorem d_M_readNever_29 : decode c_M_readNever 29 = .ok (.getfield 154, 3) := by decide +kernel
theorem d_M_readNever_32 : decode c_M_readNever 32 = .ok (.iconst 1, 1) := by decide +kernel
theorem d_M_readNever_33 : decode c_M_readNever 33 = .ok (.iadd, 1) := by decide +kernel
theorem d_M_readNever_34 : decode c_M_readNever 34 = .ok (.putfield 154, 3) := by decide +kernel
theorem d_M_readNever_37 : decode c_M_readNever 37 = .ok (.return_, 1) := by decide +kernel
theorem d_M_fault_0 : decode c_M_fault 0 = .ok (.aload_n 0, 1) := by decide +kernel
theorem d_M_fault_1 : decode c_M_fault 1 = .ok (.iconst 0, 1) := by decide +kernel
theorem d_M_fault_2 : decode c_M_fault 2 = .ok (.putfield 55, 3) := by decide +kernel
theorem d_M_fault_5 : decode c_M_fault 5 = .ok (.iload_n 1, 1) := by decide +kernel
theorem d_M_fault_6 : decode c_M_fault 6 = .ok (.ifCond .ne 10, 3) := by decide +kernel
theorem d_M_fault_9 : decode c_M_fault 9 = .ok (.aload_n 0, 1) := by decide +kernel
theorem d_M_fault_10 : decode c_M_fault 10 = .ok (.getfield 70, 3) := by decide +kernel
theorem d_M_fault_13 : decode c_M_fault 13 = .ok (.goto 20, 3) := by decide +kernel
theorem d_M_fault_16 : decode c_M_fault 16 = .ok (.iload_n 1, 1) := by decide +kernel
theorem d_M_fault_17 : decode c_M_fault 17 = .ok (.iconst 1, 1) := by decide +kernel
theorem d_M_fault_18 : decode c_M_fault 18 = .ok (.if_icmp .ne 10, 3) := by decide +kernel
theorem d_M_fault_21 : decode c_M_fault 21 = .ok (.aload_n 0, 1) := by decide +kernel
theorem d_M_fault_22 : decode c_M_fault 22 = .ok (.getfield 73, 3) := by decide +kernel
theorem d_M_fault_25 : decode c_M_fault 25 = .ok (.goto 8, 3) := by decide +kernel
theorem d_M_fault_28 : decode c_M_fault 28 = .ok (.aload_n 0, 1) := by decide +kernel
theorem d_M_fault_29 : decode c_M_fault 29 = .ok (.iconst 1, 1) := by decide +kernel
theorem d_M_fault_30 : decode c_M_fault 30 = .ok (.invokevirtual 62, 3) := by decide +kernel
theorem d_M_fault_33 : decode c_M_fault 33 = .ok (.ireturn, 1) := by decide +kernel
theorem d_M_next_0 : decode c_M_next 0 = .ok (.aload_n 0, 1) := by decide +kernel
theorem d_M_next_1 : decode c_M_next 1 = .ok (.iconst 0, 1) := by decide +kernel
theorem d_M_next_2 : decode c_M_next 2 = .ok (.putfield 55, 3) := by decide +kernel
theorem d_M_next_5 : decode c_M_next 5 = .ok (.aload_n 0, 1) := by decide +kernel
theorem d_M_next_6 : decode c_M_next 6 = .ok (.iload_n 1, 1) := by decide +kernel
theorem d_M_next_7 : decode c_M_next 7 = .ok (.iload_n 2, 1) := by decide +kernel
theorem d_M_next_8 : decode c_M_next 8 = .ok (.invokevirtual 178, 3) := by decide +kernel
theorem d_M_next_11 : decode c_M_next 11 = .ok (.ifCond .eq 17, 3) := by decide +kernel
theorem d_M_next_14 : decode c_M_next 14 = .ok (.aload_n 0, 1) := by decide +kernel
theorem d_M_next_15 : decode c_M_next 15 = .ok (.getfield 40, 3) := by decide +kernel
theorem d_M_next_18 : decode c_M_next 18 = .ok (.aload_n 0, 1) := by decide +kernel
theorem d_M_next_19 : decode c_M_next 19 = .ok (.iload_n 1, 1) := by decide +kernel
theorem d_M_next_20 : decode c_M_next 20 = .ok (.iload_n 2, 1) := by decide +kernel
theorem d_M_next_21 : decode c_M_next 21 = .ok (.invokevirtual 182, 3) := by decide +kernel
theorem d_M_next_24 : decode c_M_next 24 = .ok (.iaload, 1) := by decide +kernel
theorem d_M_next_25 : decode c_M_next 25 = .ok (.goto 8, 3) := by decide +kernel
theorem d_M_next_28 : decode c_M_next 28 = .ok (.aload_n 0, 1) := by decide +kernel
theorem d_M_next_29 : decode c_M_next 29 = .ok (.iconst 1, 1) := by decide +kernel
theorem d_M_next_30 : decode c_M_next 30 = .ok (.invokevirtual 62, 3) := by decide +kernel
theorem d_M_next_33 : decode c_M_next 33 = .ok (.ireturn, 1) := by decide +kernel
theorem d_M_isPair_0 : decode c_M_isPair 0 = .ok (.iload_n 1, 1) := by decide +kernel
theorem d_M_isPair_1 : decode c_M_isPair 1 = .ok (.iconst 0, 1) := by decide +kernel
theorem d_M_isPair_2 : decode c_M_isPair 2 = .ok (.aload_n 0, 1) := by decide +kernel
theorem d_M_isPair_3 : decode c_M_isPair 3 = .ok (.getfield 34, 3) := by decide +kernel
theorem d_M_isPair_6 : decode c_M_isPair 6 = .ok (.iconst 0, 1) := by decide +kernel
theorem d_M_isPair_7 : decode c_M_isPair 7 = .ok (.iaload, 1) := by decide +kernel
theorem d_M_isPair_8 : decode c_M_isPair 8 = .ok (.iconst 1, 1) := by decide +kernel
theorem d_M_isPair_9 : decode c_M_isPair 9 = .ok (.isub, 1) := by decide +kernel
theorem d_M_isPair_10 : decode c_M_isPair 10 = .ok (.invokestatic 66, 3) := by decide +kernel
theorem d_M_isPair_13 : decode c_M_isPair 13 = .ok (.ifCond .eq 21, 3) := by decide +kernel
theorem d_M_isPair_16 : decode c_M_isPair 16 = .ok (.iload_n 2, 1) := by decide +kernel
theorem d_M_isPair_17 : decode c_M_isPair 17 = .ok (.iconst 0, 1) := by decide +kernel
theorem d_M_isPair_18 : decode c_M_isPair 18 = .ok (.aload_n 0, 1) := by decide +kernel
theorem d_M_isPair_19 : decode c_M_isPair 19 = .ok (.invokevirtual 172, 3) := by decide +kernel
theorem d_M_isPair_22 : decode c_M_isPair 22 = .ok (.iconst 1, 1) := by decide +kernel
theorem d_M_isPair_23 : decode c_M_isPair 23 = .ok (.isub, 1) := by decide +kernel
theorem d_M_isPair_24 : decode c_M_isPair 24 = .ok (.invokestatic 66, 3) := by decide +kernel
theorem d_M_isPair_27 : decode c_M_isPair 27 = .ok (.ifCond .eq 7, 3) := by decide +kernel
theorem d_M_isPair_30 : decode c_M_isPair 30 = .ok (.iconst 1, 1) := by decide +kernel
theorem d_M_isPair_31 : decode c_M_isPair 31 = .ok (.goto 4, 3) := by decide +kernel
theorem d_M_isPair_34 : decode c_M_isPair 34 = .ok (.iconst 0, 1) := by decide +kernel
theorem d_M_isPair_35 : decode c_M_isPair 35 = .ok (.ireturn, 1) := by decide +kernel
theorem d_M_events_0 : decode c_M_events 0 = .ok (.aload_n 0, 1) := by decide +kernel
theorem d_M_events_1 : decode c_M_events 1 = .ok (.getfield 34, 3) := by decide +kernel
theorem d_M_events_4 : decode c_M_events 4 = .ok (.iconst 1, 1) := by decide +kernel
theorem d_M_events_5 : decode c_M_events 5 = .ok (.iaload, 1) := by decide +kernel
theorem d_M_events_6 : decode c_M_events 6 = .ok (.aload_n 0, 1) := by decide +kernel
theorem d_M_events_7 : decode c_M_events 7 = .ok (.getfield 34, 3) := by decide +kernel
theorem d_M_events_10 : decode c_M_events 10 = .ok (.iconst 2, 1) := by decide +kernel
theorem d_M_events_11 : decode c_M_events 11 = .ok (.iaload, 1) := by decide +kernel
theorem d_M_events_12 : decode c_M_events 12 = .ok (.iadd, 1) := by decide +kernel
theorem d_M_events_13 : decode c_M_events 13 = .ok (.ireturn, 1) := by decide +kernel
theorem d_M_at_0 : decode c_M_at 0 = .ok (.bipush 24, 2) := by decide +kernel
theorem d_M_at_2 : decode c_M_at 2 = .ok (.iload_n 1, 1) := by decide +kernel
theorem d_M_at_3 : decode c_M_at 3 = .ok (.imul, 1) := by decide +kernel
theorem d_M_at_4 : decode c_M_at 4 = .ok (.aload_n 0, 1) := by decide +kernel
theorem d_M_at_5 : decode c_M_at 5 = .ok (.iload_n 2, 1) := by decide +kernel
theorem d_M_at_6 : decode c_M_at 6 = .ok (.invokevirtual 175, 3) := by decide +kernel
theorem d_M_at_9 : decode c_M_at 9 = .ok (.iadd, 1) := by decide +kernel
theorem d_M_at_10 : decode c_M_at 10 = .ok (.ireturn, 1) := by decide +kernel
theorem d_M_slotOf_0 : decode c_M_slotOf 0 = .ok (.iload_n 1, 1) := by decide +kernel
theorem d_M_slotOf_1 : decode c_M_slotOf 1 = .ok (.aload_n 0, 1) := by decide +kernel
theorem d_M_slotOf_2 : decode c_M_slotOf 2 = .ok (.getfield 34, 3) := by decide +kernel
theorem d_M_slotOf_5 : decode c_M_slotOf 5 = .ok (.iconst 1, 1) := by decide +kernel
theorem d_M_slotOf_6 : decode c_M_slotOf 6 = .ok (.iaload, 1) := by decide +kernel
theorem d_M_slotOf_7 : decode c_M_slotOf 7 = .ok (.if_icmp .ge 7, 3) := by decide +kernel
theorem d_M_slotOf_10 : decode c_M_slotOf 10 = .ok (.iload_n 1, 1) := by decide +kernel
theorem d_M_slotOf_11 : decode c_M_slotOf 11 = .ok (.goto 14, 3) := by decide +kernel
theorem d_M_slotOf_14 : decode c_M_slotOf 14 = .ok (.bipush 8, 2) := by decide +kernel
theorem d_M_slotOf_16 : decode c_M_slotOf 16 = .ok (.iload_n 1, 1) := by decide +kernel
theorem d_M_slotOf_17 : decode c_M_slotOf 17 = .ok (.iadd, 1) := by decide +kernel
theorem d_M_slotOf_18 : decode c_M_slotOf 18 = .ok (.aload_n 0, 1) := by decide +kernel
theorem d_M_slotOf_19 : decode c_M_slotOf 19 = .ok (.getfield 34, 3) := by decide +kernel
theorem d_M_slotOf_22 : decode c_M_slotOf 22 = .ok (.iconst 1, 1) := by decide +kernel
theorem d_M_slotOf_23 : decode c_M_slotOf 23 = .ok (.iaload, 1) := by decide +kernel
theorem d_M_slotOf_24 : decode c_M_slotOf 24 = .ok (.isub, 1) := by decide +kernel
theorem d_M_slotOf_25 : decode c_M_slotOf 25 = .ok (.ireturn, 1) := by decide +kernel
theorem d_M_action_0 : decode c_M_action 0 = .ok (.aload_n 0, 1) := by decide +kernel
theorem d_M_action_1 : decode c_M_action 1 = .ok (.iconst 0, 1) := by decide +kernel
theorem d_M_action_2 : decode c_M_action 2 = .ok (.putfield 55, 3) := by decide +kernel
theorem d_M_action_5 : decode c_M_action 5 = .ok (.aload_n 0, 1) := by decide +kernel
theorem d_M_action_6 : decode c_M_action 6 = .ok (.iload_n 1, 1) := by decide +kernel
theorem d_M_action_7 : decode c_M_action 7 = .ok (.iload_n 2, 1) := by decide +kernel
theorem d_M_action_8 : decode c_M_action 8 = .ok (.invokevirtual 178, 3) := by decide +kernel
theorem d_M_action_11 : decode c_M_action 11 = .ok (.ifCond .eq 7, 3) := by decide +kernel
theorem d_M_action_14 : decode c_M_action 14 = .ok (.iload_n 3, 1) := by decide +kernel
theorem d_M_action_15 : decode c_M_action 15 = .ok (.ifCond .ge 9, 3) := by decide +kernel
theorem d_M_action_18 : decode c_M_action 18 = .ok (.aload_n 0, 1) := by decide +kernel
theorem d_M_action_19 : decode c_M_action 19 = .ok (.iconst 1, 1) := by decide +kernel
theorem d_M_action_20 : decode c_M_action 20 = .ok (.invokevirtual 62, 3) := by decide +kernel
theorem d_M_action_23 : decode c_M_action 23 = .ok (.ireturn, 1) := by decide +kernel
theorem d_M_action_24 : decode c_M_action 24 = .ok (.iload_n 3, 1) := by decide +kernel
theorem d_M_action_25 : decode c_M_action 25 = .ok (.iconst 4, 1) := by decide +kernel
theorem d_M_action_26 : decode c_M_action 26 = .ok (.if_icmp .ge 35, 3) := by decide +kernel
theorem d_M_action_29 : decode c_M_action 29 = .ok (.aload_n 0, 1) := by decide +kernel
theorem d_M_action_30 : decode c_M_action 30 = .ok (.getfield 40, 3) := by decide +kernel
theorem d_M_action_33 : decode c_M_action 33 = .ok (.aload_n 0, 1) := by decide +kernel
theorem d_M_action_34 : decode c_M_action 34 = .ok (.iload_n 1, 1) := by decide +kernel
theorem d_M_action_35 : decode c_M_action 35 = .ok (.iload_n 2, 1) := by decide +kernel
theorem d_M_action_36 : decode c_M_action 36 = .ok (.invokevirtual 182, 3) := by decide +kernel
theorem d_M_action_39 : decode c_M_action 39 = .ok (.iaload, 1) := by decide +kernel
theorem d_M_action_40 : decode c_M_action 40 = .ok (.ifCond .lt 21, 3) := by decide +kernel
theorem d_M_action_43 : decode c_M_action 43 = .ok (.aload_n 0, 1) := by decide +kernel
theorem d_M_action_44 : decode c_M_action 44 = .ok (.getfield 43, 3) := by decide +kernel
theorem d_M_action_47 : decode c_M_action 47 = .ok (.iconst 4, 1) := by decide +kernel
theorem d_M_action_48 : decode c_M_action 48 = .ok (.aload_n 0, 1) := by decide +kernel
theorem d_M_action_49 : decode c_M_action 49 = .ok (.iload_n 1, 1) := by decide +kernel
theorem d_M_action_50 : decode c_M_action 50 = .ok (.iload_n 2, 1) := by decide +kernel
theorem d_M_action_51 : decode c_M_action 51 = .ok (.invokevirtual 182, 3) := by decide +kernel
theorem d_M_action_54 : decode c_M_action 54 = .ok (.imul, 1) := by decide +kernel
theorem d_M_action_55 : decode c_M_action 55 = .ok (.iload_n 3, 1) := by decide +kernel
theorem d_M_action_56 : decode c_M_action 56 = .ok (.iadd, 1) := by decide +kernel
theorem d_M_action_57 : decode c_M_action 57 = .ok (.iaload, 1) := by decide +kernel
theorem d_M_action_58 : decode c_M_action 58 = .ok (.goto 4, 3) := by decide +kernel
theorem d_M_action_61 : decode c_M_action 61 = .ok (.iconst (-1), 1) := by decide +kernel
theorem d_M_action_62 : decode c_M_action 62 = .ok (.ireturn, 1) := by decide +kernel
theorem d_M_missing_0 : decode c_M_missing 0 = .ok (.aload_n 0, 1) := by decide +kernel
theorem d_M_missing_1 : decode c_M_missing 1 = .ok (.iconst 0, 1) := by decide +kernel
theorem d_M_missing_2 : decode c_M_missing 2 = .ok (.putfield 55, 3) := by decide +kernel
theorem d_M_missing_5 : decode c_M_missing 5 = .ok (.iconst 0, 1) := by decide +kernel
theorem d_M_missing_6 : decode c_M_missing 6 = .ok (.istore_n 2, 1) := by decide +kernel
theorem d_M_missing_7 : decode c_M_missing 7 = .ok (.iconst 0, 1) := by decide +kernel
theorem d_M_missing_8 : decode c_M_missing 8 = .ok (.istore_n 3, 1) := by decide +kernel
theorem d_M_missing_9 : decode c_M_missing 9 = .ok (.iload_n 3, 1) := by decide +kernel
theorem d_M_missing_10 : decode c_M_missing 10 = .ok (.aload_n 0, 1) := by decide +kernel
theorem d_M_missing_11 : decode c_M_missing 11 = .ok (.getfield 34, 3) := by decide +kernel
theorem d_M_missing_14 : decode c_M_missing 14 = .ok (.iconst 0, 1) := by decide +kernel
theorem d_M_missing_15 : decode c_M_missing 15 = .ok (.iaload, 1) := by decide +kernel
theorem d_M_missing_16 : decode c_M_missing 16 = .ok (.if_icmp .ge 63, 3) := by decide +kernel
theorem d_M_missing_19 : decode c_M_missing 19 = .ok (.iload_n 1, 1) := by decide +kernel
theorem d_M_missing_20 : decode c_M_missing 20 = .ok (.ifCond .lt 59, 3) := by decide +kernel
theorem d_M_missing_23 : decode c_M_missing 23 = .ok (.iconst 0, 1) := by decide +kernel
theorem d_M_missing_24 : decode c_M_missing 24 = .ok (.istore 4, 2) := by decide +kernel
theorem d_M_missing_26 : decode c_M_missing 26 = .ok (.iload 4, 2) := by decide +kernel
theorem d_M_missing_28 : decode c_M_missing 28 = .ok (.aload_n 0, 1) := by decide +kernel
theorem d_M_missing_29 : decode c_M_missing 29 = .ok (.invokevirtual 172, 3) := by decide +kernel
theorem d_M_missing_32 : decode c_M_missing 32 = .ok (.if_icmp .ge 41, 3) := by decide +kernel
theorem d_M_missing_35 : decode c_M_missing 35 = .ok (.aload_n 0, 1) := by decide +kernel
theorem d_M_missing_36 : decode c_M_missing 36 = .ok (.getfield 40, 3) := by decide +kernel
theorem d_M_missing_39 : decode c_M_missing 39 = .ok (.aload_n 0, 1) := by decide +kernel
theorem d_M_missing_40 : decode c_M_missing 40 = .ok (.iload_n 3, 1) := by decide +kernel
theorem d_M_missing_41 : decode c_M_missing 41 = .ok (.iload 4, 2) := by decide +kernel
theorem d_M_missing_43 : decode c_M_missing 43 = .ok (.invokevirtual 182, 3) := by decide +kernel
theorem d_M_missing_46 : decode c_M_missing 46 = .ok (.iaload, 1) := by decide +kernel
theorem d_M_missing_47 : decode c_M_missing 47 = .ok (.iconst (-1), 1) := by decide +kernel
theorem d_M_missing_48 : decode c_M_missing 48 = .ok (.if_icmp .ne 19, 3) := by decide +kernel
theorem d_M_missing_51 : decode c_M_missing 51 = .ok (.iload_n 2, 1) := by decide +kernel
theorem d_M_missing_52 : decode c_M_missing 52 = .ok (.iload_n 1, 1) := by decide +kernel
theorem d_M_missing_53 : decode c_M_missing 53 = .ok (.if_icmp .ne 11, 3) := by decide +kernel
theorem d_M_missing_56 : decode c_M_missing 56 = .ok (.bipush 100, 2) := by decide +kernel
theorem d_M_missing_58 : decode c_M_missing 58 = .ok (.iload_n 3, 1) := by decide +kernel
theorem d_M_missing_59 : decode c_M_missing 59 = .ok (.imul, 1) := by decide +kernel
theorem d_M_missing_60 : decode c_M_missing 60 = .ok (.iload 4, 2) := by decide +kernel
theorem d_M_missing_62 : decode c_M_missing 62 = .ok (.iadd, 1) := by decide +kernel
theorem d_M_missing_63 : decode c_M_missing 63 = .ok (.ireturn, 1) := by decide +kernel
theorem d_M_missing_64 : decode c_M_missing 64 = .ok (.iinc 2 1, 3) := by decide +kernel
theorem d_M_missing_67 : decode c_M_missing 67 = .ok (.iinc 4 1, 3) := by decide +kernel
theorem d_M_missing_70 : decode c_M_missing 70 = .ok (.goto (-44), 3) := by decide +kernel
theorem d_M_missing_73 : decode c_M_missing 73 = .ok (.iinc 3 1, 3) := by decide +kernel
theorem d_M_missing_76 : decode c_M_missing 76 = .ok (.goto (-67), 3) := by decide +kernel
theorem d_M_missing_79 : decode c_M_missing 79 = .ok (.aload_n 0, 1) := by decide +kernel
theorem d_M_missing_80 : decode c_M_missing 80 = .ok (.iconst 1, 1) := by decide +kernel
theorem d_M_missing_81 : decode c_M_missing 81 = .ok (.invokevirtual 62, 3) := by decide +kernel
theorem d_M_missing_84 : decode c_M_missing 84 = .ok (.ireturn, 1) := by decide +kernel
theorem d_M_reached_0 : decode c_M_reached 0 = .ok (.aload_n 0, 1) := by decide +kernel
theorem d_M_reached_1 : decode c_M_reached 1 = .ok (.iconst 0, 1) := by decide +kernel
theorem d_M_reached_2 : decode c_M_reached 2 = .ok (.putfield 55, 3) := by decide +kernel
theorem d_M_reached_5 : decode c_M_reached 5 = .ok (.iload_n 1, 1) := by decide +kernel
theorem d_M_reached_6 : decode c_M_reached 6 = .ok (.iconst 0, 1) := by decide +kernel
theorem d_M_reached_7 : decode c_M_reached 7 = .ok (.aload_n 0, 1) := by decide +kernel
theorem d_M_reached_8 : decode c_M_reached 8 = .ok (.getfield 34, 3) := by decide +kernel
theorem d_M_reached_11 : decode c_M_reached 11 = .ok (.iconst 0, 1) := by decide +kernel
theorem d_M_reached_12 : decode c_M_reached 12 = .ok (.iaload, 1) := by decide +kernel
theorem d_M_reached_13 : decode c_M_reached 13 = .ok (.iconst 1, 1) := by decide +kernel
theorem d_M_reached_14 : decode c_M_reached 14 = .ok (.isub, 1) := by decide +kernel
theorem d_M_reached_15 : decode c_M_reached 15 = .ok (.invokestatic 66, 3) := by decide +kernel
theorem d_M_reached_18 : decode c_M_reached 18 = .ok (.ifCond .eq 12, 3) := by decide +kernel
theorem d_M_reached_21 : decode c_M_reached 21 = .ok (.iload_n 2, 1) := by decide +kernel
theorem d_M_reached_22 : decode c_M_reached 22 = .ok (.iconst 0, 1) := by decide +kernel
theorem d_M_reached_23 : decode c_M_reached 23 = .ok (.iconst 1, 1) := by decide +kernel
theorem d_M_reached_24 : decode c_M_reached 24 = .ok (.invokestatic 66, 3) := by decide +kernel
theorem d_M_reached_27 : decode c_M_reached 27 = .ok (.ifCond .ne 9, 3) := by decide +kernel
theorem d_M_reached_30 : decode c_M_reached 30 = .ok (.aload_n 0, 1) := by decide +kernel
theorem d_M_reached_31 : decode c_M_reached 31 = .ok (.iconst 1, 1) := by decide +kernel
theorem d_M_reached_32 : decode c_M_reached 32 = .ok (.invokevirtual 62, 3) := by decide +kernel
theorem d_M_reached_35 : decode c_M_reached 35 = .ok (.ireturn, 1) := by decide +kernel
theorem d_M_reached_36 : decode c_M_reached 36 = .ok (.aload_n 0, 1) := by decide +kernel
theorem d_M_reached_37 : decode c_M_reached 37 = .ok (.invokevirtual 185, 3) := by decide +kernel
theorem d_M_reached_40 : decode c_M_reached 40 = .ok (.iload_n 2, 1) := by decide +kernel
theorem d_M_reached_41 : decode c_M_reached 41 = .ok (.iconst 1, 1) := by decide +kernel
theorem d_M_reached_42 : decode c_M_reached 42 = .ok (.if_icmp .ne 12, 3) := by decide +kernel
theorem d_M_reached_45 : decode c_M_reached 45 = .ok (.aload_n 0, 1) := by decide +kernel
theorem d_M_reached_46 : decode c_M_reached 46 = .ok (.getfield 46, 3) := by decide +kernel
theorem d_M_reached_49 : decode c_M_reached 49 = .ok (.iload_n 1, 1) := by decide +kernel
theorem d_M_reached_50 : decode c_M_reached 50 = .ok (.iaload, 1) := by decide +kernel
theorem d_M_reached_51 : decode c_M_reached 51 = .ok (.goto 17, 3) := by decide +kernel
theorem d_M_reached_54 : decode c_M_reached 54 = .ok (.aload_n 0, 1) := by decide +kernel
theorem d_M_reached_55 : decode c_M_reached 55 = .ok (.getfield 46, 3) := by decide +kernel
theorem d_M_reached_58 : decode c_M_reached 58 = .ok (.iload_n 1, 1) := by decide +kernel
theorem d_M_reached_59 : decode c_M_reached 59 = .ok (.iaload, 1) := by decide +kernel
theorem d_M_reached_60 : decode c_M_reached 60 = .ok (.ifCond .lt 7, 3) := by decide +kernel
theorem d_M_reached_63 : decode c_M_reached 63 = .ok (.iconst 1, 1) := by decide +kernel
theorem d_M_reached_64 : decode c_M_reached 64 = .ok (.goto 4, 3) := by decide +kernel
theorem d_M_reached_67 : decode c_M_reached 67 = .ok (.iconst 0, 1) := by decide +kernel
theorem d_M_reached_68 : decode c_M_reached 68 = .ok (.ireturn, 1) := by decide +kernel
theorem d_M_reach_0 : decode c_M_reach 0 = .ok (.iconst 0, 1) := by decide +kernel
theorem d_M_reach_1 : decode c_M_reach 1 = .ok (.istore_n 1, 1) := by decide +kernel
theorem d_M_reach_2 : decode c_M_reach 2 = .ok (.iload_n 1, 1) := by decide +kernel
theorem d_M_reach_3 : decode c_M_reach 3 = .ok (.bipush 16, 2) := by decide +kernel
theorem d_M_reach_5 : decode c_M_reach 5 = .ok (.if_icmp .ge 16, 3) := by decide +kernel
theorem d_M_reach_8 : decode c_M_reach 8 = .ok (.aload_n 0, 1) := by decide +kernel
theorem d_M_reach_9 : decode c_M_reach 9 = .ok (.getfield 46, 3) := by decide +kernel
theorem d_M_reach_12 : decode c_M_reach 12 = .ok (.iload_n 1, 1) := by decide +kernel
theorem d_M_reach_13 : decode c_M_reach 13 = .ok (.iconst (-1), 1) := by decide +kernel
theorem d_M_reach_14 : decode c_M_reach 14 = .ok (.iastore, 1) := by decide +kernel
theorem d_M_reach_15 : decode c_M_reach 15 = .ok (.iinc 1 1, 3) := by decide +kernel
theorem d_M_reach_18 : decode c_M_reach 18 = .ok (.goto (-16), 3) := by decide +kernel
theorem d_M_reach_21 : decode c_M_reach 21 = .ok (.iconst 0, 1) := by decide +kernel
theorem d_M_reach_22 : decode c_M_reach 22 = .ok (.istore_n 1, 1) := by decide +kernel
theorem d_M_reach_23 : decode c_M_reach 23 = .ok (.aload_n 0, 1) := by decide +kernel
theorem d_M_reach_24 : decode c_M_reach 24 = .ok (.getfield 34, 3) := by decide +kernel
theorem d_M_reach_27 : decode c_M_reach 27 = .ok (.iconst 0, 1) := by decide +kernel
theorem d_M_reach_28 : decode c_M_reach 28 = .ok (.iaload, 1) := by decide +kernel
theorem d_M_reach_29 : decode c_M_reach 29 = .ok (.ifCond .le 25, 3) := by decide +kernel
theorem d_M_reach_32 : decode c_M_reach 32 = .ok (.aload_n 0, 1) := by decide +kernel
theorem d_M_reach_33 : decode c_M_reach 33 = .ok (.getfield 46, 3) := by decide +kernel
theorem d_M_reach_36 : decode c_M_reach 36 = .ok (.aload_n 0, 1) := by decide +kernel
theorem d_M_reach_37 : decode c_M_reach 37 = .ok (.getfield 166, 3) := by decide +kernel
theorem d_M_reach_40 : decode c_M_reach 40 = .ok (.iconst 0, 1) := by decide +kernel
theorem d_M_reach_41 : decode c_M_reach 41 = .ok (.iastore, 1) := by decide +kernel
theorem d_M_reach_42 : decode c_M_reach 42 = .ok (.aload_n 0, 1) := by decide +kernel
theorem d_M_reach_43 : decode c_M_reach 43 = .ok (.getfield 49, 3) := by decide +kernel
theorem d_M_reach_46 : decode c_M_reach 46 = .ok (.iconst 0, 1) := by decide +kernel
theorem d_M_reach_47 : decode c_M_reach 47 = .ok (.aload_n 0, 1) := by decide +kernel
theorem d_M_reach_48 : decode c_M_reach 48 = .ok (.getfield 166, 3) := by decide +kernel
theorem d_M_reach_51 : decode c_M_reach 51 = .ok (.iastore, 1) := by decide +kernel
theorem d_M_reach_52 : decode c_M_reach 52 = .ok (.iconst 1, 1) := by decide +kernel
theorem d_M_reach_53 : decode c_M_reach 53 = .ok (.istore_n 1, 1) := by decide +kernel
theorem d_M_reach_54 : decode c_M_reach 54 = .ok (.iconst 0, 1) := by decide +kernel
theorem d_M_reach_55 : decode c_M_reach 55 = .ok (.istore_n 2, 1) := by decide +kernel
theorem d_M_reach_56 : decode c_M_reach 56 = .ok (.iload_n 2, 1) := by decide +kernel
theorem d_M_reach_57 : decode c_M_reach 57 = .ok (.iload_n 1, 1) := by decide +kernel
theorem d_M_reach_58 : decode c_M_reach 58 = .ok (.if_icmp .ge 89, 3) := by decide +kernel
theorem d_M_reach_61 : decode c_M_reach 61 = .ok (.iconst 0, 1) := by decide +kernel
theorem d_M_reach_62 : decode c_M_reach 62 = .ok (.istore_n 3, 1) := by decide +kernel
theorem d_M_reach_63 : decode c_M_reach 63 = .ok (.iload_n 3, 1) := by decide +kernel
theorem d_M_reach_64 : decode c_M_reach 64 = .ok (.aload_n 0, 1) := by decide +kernel
theorem d_M_reach_65 : decode c_M_reach 65 = .ok (.invokevirtual 172, 3) := by decide +kernel
theorem d_M_reach_68 : decode c_M_reach 68 = .ok (.if_icmp .ge 73, 3) := by decide +kernel
theorem d_M_reach_71 : decode c_M_reach 71 = .ok (.aload_n 0, 1) := by decide +kernel
theorem d_M_reach_72 : decode c_M_reach 72 = .ok (.getfield 40, 3) := by decide +kernel
theorem d_M_reach_75 : decode c_M_reach 75 = .ok (.aload_n 0, 1) := by decide +kernel
theorem d_M_reach_76 : decode c_M_reach 76 = .ok (.aload_n 0, 1) := by decide +kernel
theorem d_M_reach_77 : decode c_M_reach 77 = .ok (.getfield 49, 3) := by decide +kernel
theorem d_M_reach_80 : decode c_M_reach 80 = .ok (.iload_n 2, 1) := by decide +kernel
theorem d_M_reach_81 : decode c_M_reach 81 = .ok (.iaload, 1) := by decide +kernel
theorem d_M_reach_82 : decode c_M_reach 82 = .ok (.iload_n 3, 1) := by decide +kernel
theorem d_M_reach_83 : decode c_M_reach 83 = .ok (.invokevirtual 182, 3) := by decide +kernel
theorem d_M_reach_86 : decode c_M_reach 86 = .ok (.iaload, 1) := by decide +kernel
theorem d_M_reach_87 : decode c_M_reach 87 = .ok (.istore 4, 2) := by decide +kernel
theorem d_M_reach_89 : decode c_M_reach 89 = .ok (.iload 4, 2) := by decide +kernel
theorem d_M_reach_91 : decode c_M_reach 91 = .ok (.ifCond .lt 44, 3) := by decide +kernel
theorem d_M_reach_94 : decode c_M_reach 94 = .ok (.aload_n 0, 1) := by decide +kernel
theorem d_M_reach_95 : decode c_M_reach 95 = .ok (.getfield 46, 3) := by decide +kernel
theorem d_M_reach_98 : decode c_M_reach 98 = .ok (.iload 4, 2) := by decide +kernel
theorem d_M_reach_100 : decode c_M_reach 100 = .ok (.iaload, 1) := by decide +kernel
theorem d_M_reach_101 : decode c_M_reach 101 = .ok (.ifCond .ge 34, 3) := by decide +kernel
theorem d_M_reach_104 : decode c_M_reach 104 = .ok (.aload_n 0, 1) := by decide +kernel
theorem d_M_reach_105 : decode c_M_reach 105 = .ok (.getfield 46, 3) := by decide +kernel
theorem d_M_reach_108 : decode c_M_reach 108 = .ok (.iload 4, 2) := by decide +kernel
theorem d_M_reach_110 : decode c_M_reach 110 = .ok (.aload_n 0, 1) := by decide +kernel
theorem d_M_reach_111 : decode c_M_reach 111 = .ok (.getfield 46, 3) := by decide +kernel
theorem d_M_reach_114 : decode c_M_reach 114 = .ok (.aload_n 0, 1) := by decide +kernel
theorem d_M_reach_115 : decode c_M_reach 115 = .ok (.getfield 49, 3) := by decide +kernel
theorem d_M_reach_118 : decode c_M_reach 118 = .ok (.iload_n 2, 1) := by decide +kernel
theorem d_M_reach_119 : decode c_M_reach 119 = .ok (.iaload, 1) := by decide +kernel
theorem d_M_reach_120 : decode c_M_reach 120 = .ok (.iaload, 1) := by decide +kernel
theorem d_M_reach_121 : decode c_M_reach 121 = .ok (.iconst 1, 1) := by decide +kernel
theorem d_M_reach_122 : decode c_M_reach 122 = .ok (.iadd, 1) := by decide +kernel
theorem d_M_reach_123 : decode c_M_reach 123 = .ok (.iastore, 1) := by decide +kernel
theorem d_M_reach_124 : decode c_M_reach 124 = .ok (.aload_n 0, 1) := by decide +kernel
theorem d_M_reach_125 : decode c_M_reach 125 = .ok (.getfield 49, 3) := by decide +kernel
theorem d_M_reach_128 : decode c_M_reach 128 = .ok (.iload_n 1, 1) := by decide +kernel
theorem d_M_reach_129 : decode c_M_reach 129 = .ok (.iload 4, 2) := by decide +kernel
theorem d_M_reach_131 : decode c_M_reach 131 = .ok (.iastore, 1) := by decide +kernel
theorem d_M_reach_132 : decode c_M_reach 132 = .ok (.iinc 1 1, 3) := by decide +kernel
theorem d_M_reach_135 : decode c_M_reach 135 = .ok (.iinc 3 1, 3) := by decide +kernel
theorem d_M_reach_138 : decode c_M_reach 138 = .ok (.goto (-75), 3) := by decide +kernel
theorem d_M_reach_141 : decode c_M_reach 141 = .ok (.iinc 2 1, 3) := by decide +kernel
theorem d_M_reach_144 : decode c_M_reach 144 = .ok (.goto (-88), 3) := by decide +kernel
theorem d_M_reach_147 : decode c_M_reach 147 = .ok (.return_, 1) := by decide +kernel
theorem d_M_message_0 : decode c_M_message 0 = .ok (.aload_n 0, 1) := by decide +kernel
theorem d_M_message_1 : decode c_M_message 1 = .ok (.iconst 0, 1) := by decide +kernel
theorem d_M_message_2 : decode c_M_message 2 = .ok (.putfield 55, 3) := by decide +kernel
theorem d_M_message_5 : decode c_M_message 5 = .ok (.iload_n 1, 1) := by decide +kernel
theorem d_M_message_6 : decode c_M_message 6 = .ok (.iconst 0, 1) := by decide +kernel
theorem d_M_message_7 : decode c_M_message 7 = .ok (.aload_n 0, 1) := by decide +kernel
theorem d_M_message_8 : decode c_M_message 8 = .ok (.getfield 34, 3) := by decide +kernel
theorem d_M_message_11 : decode c_M_message 11 = .ok (.iconst 2, 1) := by decide +kernel
theorem d_M_message_12 : decode c_M_message 12 = .ok (.iaload, 1) := by decide +kernel
theorem d_M_message_13 : decode c_M_message 13 = .ok (.iconst 1, 1) := by decide +kernel
theorem d_M_message_14 : decode c_M_message 14 = .ok (.isub, 1) := by decide +kernel
theorem d_M_message_15 : decode c_M_message 15 = .ok (.invokestatic 66, 3) := by decide +kernel
theorem d_M_message_18 : decode c_M_message 18 = .ok (.ifCond .ne 9, 3) := by decide +kernel
theorem d_M_message_21 : decode c_M_message 21 = .ok (.aload_n 0, 1) := by decide +kernel
theorem d_M_message_22 : decode c_M_message 22 = .ok (.iconst 1, 1) := by decide +kernel
theorem d_M_message_23 : decode c_M_message 23 = .ok (.invokevirtual 62, 3) := by decide +kernel
theorem d_M_message_26 : decode c_M_message 26 = .ok (.ireturn, 1) := by decide +kernel
theorem d_M_message_27 : decode c_M_message 27 = .ok (.aload_n 0, 1) := by decide +kernel
theorem d_M_message_28 : decode c_M_message 28 = .ok (.invokevirtual 185, 3) := by decide +kernel
theorem d_M_message_31 : decode c_M_message 31 = .ok (.iconst 0, 1) := by decide +kernel
theorem d_M_message_32 : decode c_M_message 32 = .ok (.istore_n 2, 1) := by decide +kernel
theorem d_M_message_33 : decode c_M_message 33 = .ok (.iconst 0, 1) := by decide +kernel
theorem d_M_message_34 : decode c_M_message 34 = .ok (.istore_n 3, 1) := by decide +kernel
theorem d_M_message_35 : decode c_M_message 35 = .ok (.iconst 0, 1) := by decide +kernel
theorem d_M_message_36 : decode c_M_message 36 = .ok (.istore 4, 2) := by decide +kernel
theorem d_M_message_38 : decode c_M_message 38 = .ok (.iload 4, 2) := by decide +kernel
theorem d_M_message_40 : decode c_M_message 40 = .ok (.aload_n 0, 1) := by decide +kernel
theorem d_M_message_41 : decode c_M_message 41 = .ok (.getfield 34, 3) := by decide +kernel
theorem d_M_message_44 : decode c_M_message 44 = .ok (.iconst 0, 1) := by decide +kernel
theorem d_M_message_45 : decode c_M_message 45 = .ok (.iaload, 1) := by decide +kernel
theorem d_M_message_46 : decode c_M_message 46 = .ok (.if_icmp .ge 77, 3) := by decide +kernel
theorem d_M_message_49 : decode c_M_message 49 = .ok (.iload_n 2, 1) := by decide +kernel
theorem d_M_message_50 : decode c_M_message 50 = .ok (.ifCond .ne 23, 3) := by decide +kernel
theorem d_M_message_53 : decode c_M_message 53 = .ok (.aload_n 0, 1) := by decide +kernel
theorem d_M_message_54 : decode c_M_message 54 = .ok (.getfield 46, 3) := by decide +kernel
theorem d_M_message_57 : decode c_M_message 57 = .ok (.iload 4, 2) := by decide +kernel
theorem d_M_message_59 : decode c_M_message 59 = .ok (.iaload, 1) := by decide +kernel
theorem d_M_message_60 : decode c_M_message 60 = .ok (.ifCond .lt 17, 3) := by decide +kernel
theorem d_M_message_63 : decode c_M_message 63 = .ok (.aload_n 0, 1) := by decide +kernel
theorem d_M_message_64 : decode c_M_message 64 = .ok (.iload 4, 2) := by decide +kernel
theorem d_M_message_66 : decode c_M_message 66 = .ok (.iload_n 1, 1) := by decide +kernel
theorem d_M_message_67 : decode c_M_message 67 = .ok (.invokevirtual 188, 3) := by decide +kernel
theorem d_M_message_70 : decode c_M_message 70 = .ok (.ifCond .eq 7, 3) := by decide +kernel
theorem d_M_message_73 : decode c_M_message 73 = .ok (.iconst 1, 1) := by decide +kernel
theorem d_M_message_74 : decode c_M_message 74 = .ok (.goto 4, 3) := by decide +kernel
theorem d_M_message_77 : decode c_M_message 77 = .ok (.iconst 0, 1) := by decide +kernel
theorem d_M_message_78 : decode c_M_message 78 = .ok (.istore_n 2, 1) := by decide +kernel
theorem d_M_message_79 : decode c_M_message 79 = .ok (.iload_n 3, 1) := by decide +kernel
theorem d_M_message_80 : decode c_M_message 80 = .ok (.ifCond .ne 31, 3) := by decide +kernel
theorem d_M_message_83 : decode c_M_message 83 = .ok (.aload_n 0, 1) := by decide +kernel
theorem d_M_message_84 : decode c_M_message 84 = .ok (.getfield 46, 3) := by decide +kernel
theorem d_M_message_87 : decode c_M_message 87 = .ok (.iload 4, 2) := by decide +kernel
theorem d_M_message_89 : decode c_M_message 89 = .ok (.iaload, 1) := by decide +kernel
theorem d_M_message_90 : decode c_M_message 90 = .ok (.ifCond .lt 25, 3) := by decide +kernel
theorem d_M_message_93 : decode c_M_message 93 = .ok (.aload_n 0, 1) := by decide +kernel
theorem d_M_message_94 : decode c_M_message 94 = .ok (.getfield 40, 3) := by decide +kernel
theorem d_M_message_97 : decode c_M_message 97 = .ok (.bipush 24, 2) := by decide +kernel
theorem d_M_message_99 : decode c_M_message 99 = .ok (.iload 4, 2) := by decide +kernel
theorem d_M_message_101 : decode c_M_message 101 = .ok (.imul, 1) := by decide +kernel
theorem d_M_message_102 : decode c_M_message 102 = .ok (.bipush 8, 2) := by decide +kernel
theorem d_M_message_104 : decode c_M_message 104 = .ok (.iadd, 1) := by decide +kernel
theorem d_M_message_105 : decode c_M_message 105 = .ok (.iload_n 1, 1) := by decide +kernel
theorem d_M_message_106 : decode c_M_message 106 = .ok (.iadd, 1) := by decide +kernel
theorem d_M_message_107 : decode c_M_message 107 = .ok (.iaload, 1) := by decide +kernel
theorem d_M_message_108 : decode c_M_message 108 = .ok (.ifCond .lt 7, 3) := by decide +kernel
theorem d_M_message_111 : decode c_M_message 111 = .ok (.iconst 1, 1) := by decide +kernel
theorem d_M_message_112 : decode c_M_message 112 = .ok (.goto 4, 3) := by decide +kernel
theorem d_M_message_115 : decode c_M_message 115 = .ok (.iconst 0, 1) := by decide +kernel
theorem d_M_message_116 : decode c_M_message 116 = .ok (.istore_n 3, 1) := by decide +kernel
theorem d_M_message_117 : decode c_M_message 117 = .ok (.iinc 4 1, 3) := by decide +kernel
theorem d_M_message_120 : decode c_M_message 120 = .ok (.goto (-82), 3) := by decide +kernel
theorem d_M_message_123 : decode c_M_message 123 = .ok (.iload_n 2, 1) := by decide +kernel
theorem d_M_message_124 : decode c_M_message 124 = .ok (.ifCond .ne 7, 3) := by decide +kernel
theorem d_M_message_127 : decode c_M_message 127 = .ok (.iconst 0, 1) := by decide +kernel
theorem d_M_message_128 : decode c_M_message 128 = .ok (.goto 12, 3) := by decide +kernel
theorem d_M_message_131 : decode c_M_message 131 = .ok (.iload_n 3, 1) := by decide +kernel
theorem d_M_message_132 : decode c_M_message 132 = .ok (.ifCond .eq 7, 3) := by decide +kernel
theorem d_M_message_135 : decode c_M_message 135 = .ok (.iconst 1, 1) := by decide +kernel
theorem d_M_message_136 : decode c_M_message 136 = .ok (.goto 4, 3) := by decide +kernel
theorem d_M_message_139 : decode c_M_message 139 = .ok (.iconst 3, 1) := by decide +kernel
theorem d_M_message_140 : decode c_M_message 140 = .ok (.ireturn, 1) := by decide +kernel
theorem d_M_sends_0 : decode c_M_sends 0 = .ok (.iconst 0, 1) := by decide +kernel
theorem d_M_sends_1 : decode c_M_sends 1 = .ok (.istore_n 3, 1) := by decide +kernel
theorem d_M_sends_2 : decode c_M_sends 2 = .ok (.iconst 0, 1) := by decide +kernel
theorem d_M_sends_3 : decode c_M_sends 3 = .ok (.istore 4, 2) := by decide +kernel
theorem d_M_sends_5 : decode c_M_sends 5 = .ok (.iload 4, 2) := by decide +kernel
theorem d_M_sends_7 : decode c_M_sends 7 = .ok (.aload_n 0, 1) := by decide +kernel
theorem d_M_sends_8 : decode c_M_sends 8 = .ok (.invokevirtual 172, 3) := by decide +kernel
theorem d_M_sends_11 : decode c_M_sends 11 = .ok (.if_icmp .ge 70, 3) := by decide +kernel
theorem d_M_sends_14 : decode c_M_sends 14 = .ok (.iconst 0, 1) := by decide +kernel
theorem d_M_sends_15 : decode c_M_sends 15 = .ok (.istore 5, 2) := by decide +kernel
theorem d_M_sends_17 : decode c_M_sends 17 = .ok (.iload 5, 2) := by decide +kernel
theorem d_M_sends_19 : decode c_M_sends 19 = .ok (.iconst 4, 1) := by decide +kernel
theorem d_M_sends_20 : decode c_M_sends 20 = .ok (.if_icmp .ge 55, 3) := by decide +kernel
theorem d_M_sends_23 : decode c_M_sends 23 = .ok (.iload_n 3, 1) := by decide +kernel
theorem d_M_sends_24 : decode c_M_sends 24 = .ok (.ifCond .ne 39, 3) := by decide +kernel
theorem d_M_sends_27 : decode c_M_sends 27 = .ok (.aload_n 0, 1) := by decide +kernel
theorem d_M_sends_28 : decode c_M_sends 28 = .ok (.getfield 40, 3) := by decide +kernel
theorem d_M_sends_31 : decode c_M_sends 31 = .ok (.aload_n 0, 1) := by decide +kernel
theorem d_M_sends_32 : decode c_M_sends 32 = .ok (.iload_n 1, 1) := by decide +kernel
theorem d_M_sends_33 : decode c_M_sends 33 = .ok (.iload 4, 2) := by decide +kernel
theorem d_M_sends_35 : decode c_M_sends 35 = .ok (.invokevirtual 182, 3) := by decide +kernel
theorem d_M_sends_38 : decode c_M_sends 38 = .ok (.iaload, 1) := by decide +kernel
theorem d_M_sends_39 : decode c_M_sends 39 = .ok (.ifCond .lt 28, 3) := by decide +kernel
theorem d_M_sends_42 : decode c_M_sends 42 = .ok (.aload_n 0, 1) := by decide +kernel
theorem d_M_sends_43 : decode c_M_sends 43 = .ok (.getfield 43, 3) := by decide +kernel
theorem d_M_sends_46 : decode c_M_sends 46 = .ok (.iconst 4, 1) := by decide +kernel
theorem d_M_sends_47 : decode c_M_sends 47 = .ok (.aload_n 0, 1) := by decide +kernel
theorem d_M_sends_48 : decode c_M_sends 48 = .ok (.iload_n 1, 1) := by decide +kernel
theorem d_M_sends_49 : decode c_M_sends 49 = .ok (.iload 4, 2) := by decide +kernel
theorem d_M_sends_51 : decode c_M_sends 51 = .ok (.invokevirtual 182, 3) := by decide +kernel
theorem d_M_sends_54 : decode c_M_sends 54 = .ok (.imul, 1) := by decide +kernel
theorem d_M_sends_55 : decode c_M_sends 55 = .ok (.iload 5, 2) := by decide +kernel
theorem d_M_sends_57 : decode c_M_sends 57 = .ok (.iadd, 1) := by decide +kernel
theorem d_M_sends_58 : decode c_M_sends 58 = .ok (.iaload, 1) := by decide +kernel
theorem d_M_sends_59 : decode c_M_sends 59 = .ok (.iload_n 2, 1) := by decide +kernel
theorem d_M_sends_60 : decode c_M_sends 60 = .ok (.if_icmp .ne 7, 3) := by decide +kernel
theorem d_M_sends_63 : decode c_M_sends 63 = .ok (.iconst 1, 1) := by decide +kernel
theorem d_M_sends_64 : decode c_M_sends 64 = .ok (.goto 4, 3) := by decide +kernel
theorem d_M_sends_67 : decode c_M_sends 67 = .ok (.iconst 0, 1) := by decide +kernel
theorem d_M_sends_68 : decode c_M_sends 68 = .ok (.istore_n 3, 1) := by decide +kernel
theorem d_M_sends_69 : decode c_M_sends 69 = .ok (.iinc 5 1, 3) := by decide +kernel
theorem d_M_sends_72 : decode c_M_sends 72 = .ok (.goto (-55), 3) := by decide +kernel
theorem d_M_sends_75 : decode c_M_sends 75 = .ok (.iinc 4 1, 3) := by decide +kernel
theorem d_M_sends_78 : decode c_M_sends 78 = .ok (.goto (-73), 3) := by decide +kernel
theorem d_M_sends_81 : decode c_M_sends 81 = .ok (.iload_n 3, 1) := by decide +kernel
theorem d_M_sends_82 : decode c_M_sends 82 = .ok (.ireturn, 1) := by decide +kernel
theorem d_M_print_0 : decode c_M_print 0 = .ok (.aload_n 0, 1) := by decide +kernel
theorem d_M_print_1 : decode c_M_print 1 = .ok (.iconst 0, 1) := by decide +kernel
theorem d_M_print_2 : decode c_M_print 2 = .ok (.putfield 55, 3) := by decide +kernel
theorem d_M_print_5 : decode c_M_print 5 = .ok (.aload_n 0, 1) := by decide +kernel
theorem d_M_print_6 : decode c_M_print 6 = .ok (.iconst 0, 1) := by decide +kernel
theorem d_M_print_7 : decode c_M_print 7 = .ok (.putfield 191, 3) := by decide +kernel
theorem d_M_print_10 : decode c_M_print 10 = .ok (.iconst 0, 1) := by decide +kernel
theorem d_M_print_11 : decode c_M_print 11 = .ok (.istore_n 1, 1) := by decide +kernel
theorem d_M_print_12 : decode c_M_print 12 = .ok (.iload_n 1, 1) := by decide +kernel
theorem d_M_print_13 : decode c_M_print 13 = .ok (.iconst 3, 1) := by decide +kernel
theorem d_M_print_14 : decode c_M_print 14 = .ok (.if_icmp .ge 14, 3) := by decide +kernel
theorem d_M_print_17 : decode c_M_print 17 = .ok (.aload_n 0, 1) := by decide +kernel
theorem d_M_print_18 : decode c_M_print 18 = .ok (.iload_n 1, 1) := by decide +kernel
theorem d_M_print_19 : decode c_M_print 19 = .ok (.invokevirtual 212, 3) := by decide +kernel
theorem d_M_print_22 : decode c_M_print 22 = .ok (.iinc 1 1, 3) := by decide +kernel
theorem d_M_print_25 : decode c_M_print 25 = .ok (.goto (-13), 3) := by decide +kernel
theorem d_M_print_28 : decode c_M_print 28 = .ok (.aload_n 0, 1) := by decide +kernel
theorem d_M_print_29 : decode c_M_print 29 = .ok (.getfield 34, 3) := by decide +kernel
theorem d_M_print_32 : decode c_M_print 32 = .ok (.iconst 0, 1) := by decide +kernel
theorem d_M_print_33 : decode c_M_print 33 = .ok (.iaload, 1) := by decide +kernel
theorem d_M_print_34 : decode c_M_print 34 = .ok (.ifCond .le 28, 3) := by decide +kernel
theorem d_M_print_37 : decode c_M_print 37 = .ok (.aload_n 0, 1) := by decide +kernel
theorem d_M_print_38 : decode c_M_print 38 = .ok (.iconst 5, 1) := by decide +kernel
theorem d_M_print_39 : decode c_M_print 39 = .ok (.invokevirtual 200, 3) := by decide +kernel
theorem d_M_print_42 : decode c_M_print 42 = .ok (.aload_n 0, 1) := by decide +kernel
theorem d_M_print_43 : decode c_M_print 43 = .ok (.bipush 32, 2) := by decide +kernel
theorem d_M_print_45 : decode c_M_print 45 = .ok (.invokevirtual 194, 3) := by decide +kernel
theorem d_M_print_48 : decode c_M_print 48 = .ok (.aload_n 0, 1) := by decide +kernel
theorem d_M_print_49 : decode c_M_print 49 = .ok (.iconst 0, 1) := by decide +kernel
theorem d_M_print_50 : decode c_M_print 50 = .ok (.aload_n 0, 1) := by decide +kernel
theorem d_M_print_51 : decode c_M_print 51 = .ok (.getfield 166, 3) := by decide +kernel
theorem d_M_print_54 : decode c_M_print 54 = .ok (.invokevirtual 197, 3) := by decide +kernel
theorem d_M_print_57 : decode c_M_print 57 = .ok (.pop, 1) := by decide +kernel
theorem d_M_print_58 : decode c_M_print 58 = .ok (.aload_n 0, 1) := by decide +kernel
theorem d_M_print_59 : decode c_M_print 59 = .ok (.invokevirtual 203, 3) := by decide +kernel
theorem d_M_print_62 : decode c_M_print 62 = .ok (.iconst 0, 1) := by decide +kernel
theorem d_M_print_63 : decode c_M_print 63 = .ok (.istore_n 1, 1) := by decide +kernel
theorem d_M_print_64 : decode c_M_print 64 = .ok (.iload_n 1, 1) := by decide +kernel
theorem d_M_print_65 : decode c_M_print 65 = .ok (.aload_n 0, 1) := by decide +kernel
theorem d_M_print_66 : decode c_M_print 66 = .ok (.getfield 34, 3) := by decide +kernel
theorem d_M_print_69 : decode c_M_print 69 = .ok (.iconst 0, 1) := by decide +kernel
theorem d_M_print_70 : decode c_M_print 70 = .ok (.iaload, 1) := by decide +kernel
theorem d_M_print_71 : decode c_M_print 71 = .ok (.if_icmp .ge 31, 3) := by decide +kernel
theorem d_M_print_74 : decode c_M_print 74 = .ok (.iconst 0, 1) := by decide +kernel
theorem d_M_print_75 : decode c_M_print 75 = .ok (.istore_n 2, 1) := by decide +kernel
theorem d_M_print_76 : decode c_M_print 76 = .ok (.iload_n 2, 1) := by decide +kernel
theorem d_M_print_77 : decode c_M_print 77 = .ok (.aload_n 0, 1) := by decide +kernel
theorem d_M_print_78 : decode c_M_print 78 = .ok (.invokevirtual 172, 3) := by decide +kernel
theorem d_M_print_81 : decode c_M_print 81 = .ok (.if_icmp .ge 15, 3) := by decide +kernel
theorem d_M_print_84 : decode c_M_print 84 = .ok (.aload_n 0, 1) := by decide +kernel
theorem d_M_print_85 : decode c_M_print 85 = .ok (.iload_n 1, 1) := by decide +kernel
theorem d_M_print_86 : decode c_M_print 86 = .ok (.iload_n 2, 1) := by decide +kernel
theorem d_M_print_87 : decode c_M_print 87 = .ok (.invokevirtual 215, 3) := by decide +kernel
theorem d_M_print_90 : decode c_M_print 90 = .ok (.iinc 2 1, 3) := by decide +kernel
theorem d_M_print_93 : decode c_M_print 93 = .ok (.goto (-17), 3) := by decide +kernel
theorem d_M_print_96 : decode c_M_print 96 = .ok (.iinc 1 1, 3) := by decide +kernel
theorem d_M_print_99 : decode c_M_print 99 = .ok (.goto (-35), 3) := by decide +kernel
theorem d_M_print_102 : decode c_M_print 102 = .ok (.aload_n 0, 1) := by decide +kernel
theorem d_M_print_103 : decode c_M_print 103 = .ok (.getfield 191, 3) := by decide +kernel
theorem d_M_print_106 : decode c_M_print 106 = .ok (.ireturn, 1) := by decide +kernel
theorem d_M_printNames_0 : decode c_M_printNames 0 = .ok (.aload_n 0, 1) := by decide +kernel
theorem d_M_printNames_1 : decode c_M_printNames 1 = .ok (.getfield 34, 3) := by decide +kernel
theorem d_M_printNames_4 : decode c_M_printNames 4 = .ok (.iload_n 1, 1) := by decide +kernel
theorem d_M_printNames_5 : decode c_M_printNames 5 = .ok (.iaload, 1) := by decide +kernel
theorem d_M_printNames_6 : decode c_M_printNames 6 = .ok (.ifCond .ne 4, 3) := by decide +kernel
theorem d_M_printNames_9 : decode c_M_printNames 9 = .ok (.return_, 1) := by decide +kernel
theorem d_M_printNames_10 : decode c_M_printNames 10 = .ok (.aload_n 0, 1) := by decide +kernel
theorem d_M_printNames_11 : decode c_M_printNames 11 = .ok (.iload_n 1, 1) := by decide +kernel
theorem d_M_printNames_12 : decode c_M_printNames 12 = .ok (.invokevirtual 200, 3) := by decide +kernel
theorem d_M_printNames_15 : decode c_M_printNames 15 = .ok (.iconst 0, 1) := by decide +kernel
theorem d_M_printNames_16 : decode c_M_printNames 16 = .ok (.istore_n 2, 1) := by decide +kernel
theorem d_M_printNames_17 : decode c_M_printNames 17 = .ok (.iload_n 2, 1) := by decide +kernel
theorem d_M_printNames_18 : decode c_M_printNames 18 = .ok (.aload_n 0, 1) := by decide +kernel
theorem d_M_printNames_19 : decode c_M_printNames 19 = .ok (.getfield 34, 3) := by decide +kernel
theorem d_M_printNames_22 : decode c_M_printNames 22 = .ok (.iload_n 1, 1) := by decide +kernel
theorem d_M_printNames_23 : decode c_M_printNames 23 = .ok (.iaload, 1) := by decide +kernel
theorem d_M_printNames_24 : decode c_M_printNames 24 = .ok (.if_icmp .ge 32, 3) := by decide +kernel
theorem d_M_printNames_27 : decode c_M_printNames 27 = .ok (.iload_n 2, 1) := by decide +kernel
theorem d_M_printNames_28 : decode c_M_printNames 28 = .ok (.ifCond .le 9, 3) := by decide +kernel
theorem d_M_printNames_31 : decode c_M_printNames 31 = .ok (.aload_n 0, 1) := by decide +kernel
theorem d_M_printNames_32 : decode c_M_printNames 32 = .ok (.bipush 44, 2) := by decide +kernel
theorem d_M_printNames_34 : decode c_M_printNames 34 = .ok (.invokevirtual 194, 3) := by decide +kernel
theorem d_M_printNames_37 : decode c_M_printNames 37 = .ok (.aload_n 0, 1) := by decide +kernel
theorem d_M_printNames_38 : decode c_M_printNames 38 = .ok (.bipush 32, 2) := by decide +kernel
theorem d_M_printNames_40 : decode c_M_printNames 40 = .ok (.invokevirtual 194, 3) := by decide +kernel
theorem d_M_printNames_43 : decode c_M_printNames 43 = .ok (.aload_n 0, 1) := by decide +kernel
theorem d_M_printNames_44 : decode c_M_printNames 44 = .ok (.iload_n 1, 1) := by decide +kernel
theorem d_M_printNames_45 : decode c_M_printNames 45 = .ok (.iload_n 2, 1) := by decide +kernel
theorem d_M_printNames_46 : decode c_M_printNames 46 = .ok (.invokevirtual 197, 3) := by decide +kernel
theorem d_M_printNames_49 : decode c_M_printNames 49 = .ok (.pop, 1) := by decide +kernel
theorem d_M_printNames_50 : decode c_M_printNames 50 = .ok (.iinc 2 1, 3) := by decide +kernel
theorem d_M_printNames_53 : decode c_M_printNames 53 = .ok (.goto (-36), 3) := by decide +kernel
theorem d_M_printNames_56 : decode c_M_printNames 56 = .ok (.aload_n 0, 1) := by decide +kernel
theorem d_M_printNames_57 : decode c_M_printNames 57 = .ok (.invokevirtual 203, 3) := by decide +kernel
theorem d_M_printNames_60 : decode c_M_printNames 60 = .ok (.return_, 1) := by decide +kernel
theorem d_M_sayWord_0 : decode c_M_sayWord 0 = .ok (.iconst 0, 1) := by decide +kernel
theorem d_M_sayWord_1 : decode c_M_sayWord 1 = .ok (.istore_n 2, 1) := by decide +kernel
theorem d_M_sayWord_2 : decode c_M_sayWord 2 = .ok (.iconst 0, 1) := by decide +kernel
theorem d_M_sayWord_3 : decode c_M_sayWord 3 = .ok (.istore_n 3, 1) := by decide +kernel
theorem d_M_sayWord_4 : decode c_M_sayWord 4 = .ok (.iload_n 3, 1) := by decide +kernel
theorem d_M_sayWord_5 : decode c_M_sayWord 5 = .ok (.iload_n 1, 1) := by decide +kernel
theorem d_M_sayWord_6 : decode c_M_sayWord 6 = .ok (.if_icmp .ge 27, 3) := by decide +kernel
theorem d_M_sayWord_9 : decode c_M_sayWord 9 = .ok (.aload_n 0, 1) := by decide +kernel
theorem d_M_sayWord_10 : decode c_M_sayWord 10 = .ok (.getfield 7, 3) := by decide +kernel
theorem d_M_sayWord_13 : decode c_M_sayWord 13 = .ok (.iload_n 2, 1) := by decide +kernel
theorem d_M_sayWord_14 : decode c_M_sayWord 14 = .ok (.iaload, 1) := by decide +kernel
theorem d_M_sayWord_15 : decode c_M_sayWord 15 = .ok (.ifCond .eq 9, 3) := by decide +kernel
theorem d_M_sayWord_18 : decode c_M_sayWord 18 = .ok (.iinc 2 1, 3) := by decide +kernel
theorem d_M_sayWord_21 : decode c_M_sayWord 21 = .ok (.goto (-12), 3) := by decide +kernel
theorem d_M_sayWord_24 : decode c_M_sayWord 24 = .ok (.iinc 2 1, 3) := by decide +kernel
theorem d_M_sayWord_27 : decode c_M_sayWord 27 = .ok (.iinc 3 1, 3) := by decide +kernel
theorem d_M_sayWord_30 : decode c_M_sayWord 30 = .ok (.goto (-26), 3) := by decide +kernel
theorem d_M_sayWord_33 : decode c_M_sayWord 33 = .ok (.iload_n 2, 1) := by decide +kernel
theorem d_M_sayWord_34 : decode c_M_sayWord 34 = .ok (.istore_n 3, 1) := by decide +kernel
theorem d_M_sayWord_35 : decode c_M_sayWord 35 = .ok (.aload_n 0, 1) := by decide +kernel
theorem d_M_sayWord_36 : decode c_M_sayWord 36 = .ok (.getfield 7, 3) := by decide +kernel
theorem d_M_sayWord_39 : decode c_M_sayWord 39 = .ok (.iload_n 3, 1) := by decide +kernel
theorem d_M_sayWord_40 : decode c_M_sayWord 40 = .ok (.iaload, 1) := by decide +kernel
theorem d_M_sayWord_41 : decode c_M_sayWord 41 = .ok (.ifCond .eq 19, 3) := by decide +kernel
theorem d_M_sayWord_44 : decode c_M_sayWord 44 = .ok (.aload_n 0, 1) := by decide +kernel
theorem d_M_sayWord_45 : decode c_M_sayWord 45 = .ok (.aload_n 0, 1) := by decide +kernel
theorem d_M_sayWord_46 : decode c_M_sayWord 46 = .ok (.getfield 7, 3) := by decide +kernel
theorem d_M_sayWord_49 : decode c_M_sayWord 49 = .ok (.iload_n 3, 1) := by decide +kernel
theorem d_M_sayWord_50 : decode c_M_sayWord 50 = .ok (.iaload, 1) := by decide +kernel
theorem d_M_sayWord_51 : decode c_M_sayWord 51 = .ok (.invokevirtual 194, 3) := by decide +kernel
theorem d_M_sayWord_54 : decode c_M_sayWord 54 = .ok (.iinc 3 1, 3) := by decide +kernel
theorem d_M_sayWord_57 : decode c_M_sayWord 57 = .ok (.goto (-22), 3) := by decide +kernel
theorem d_M_sayWord_60 : decode c_M_sayWord 60 = .ok (.return_, 1) := by decide +kernel
theorem d_M_say_0 : decode c_M_say 0 = .ok (.aload_n 0, 1) := by decide +kernel
theorem d_M_say_1 : decode c_M_say 1 = .ok (.getfield 16, 3) := by decide +kernel
theorem d_M_say_4 : decode c_M_say 4 = .ok (.aload_n 0, 1) := by decide +kernel
theorem d_M_say_5 : decode c_M_say 5 = .ok (.getfield 191, 3) := by decide +kernel
theorem d_M_say_8 : decode c_M_say 8 = .ok (.iload_n 1, 1) := by decide +kernel
theorem d_M_say_9 : decode c_M_say 9 = .ok (.iastore, 1) := by decide +kernel
theorem d_M_say_10 : decode c_M_say 10 = .ok (.aload_n 0, 1) := by decide +kernel
theorem d_M_say_11 : decode c_M_say 11 = .ok (.dup, 1) := by decide +kernel
theorem d_M_say_12 : decode c_M_say 12 = .ok (.getfield 191, 3) := by decide +kernel
theorem d_M_say_15 : decode c_M_say 15 = .ok (.iconst 1, 1) := by decide +kernel
theorem d_M_say_16 : decode c_M_say 16 = .ok (.iadd, 1) := by decide +kernel
theorem d_M_say_17 : decode c_M_say 17 = .ok (.putfield 191, 3) := by decide +kernel
theorem d_M_say_20 : decode c_M_say 20 = .ok (.return_, 1) := by decide +kernel
theorem d_M_sayName_0 : decode c_M_sayName 0 = .ok (.aload_n 0, 1) := by decide +kernel
theorem d_M_sayName_1 : decode c_M_sayName 1 = .ok (.getfield 37, 3) := by decide +kernel
theorem d_M_sayName_4 : decode c_M_sayName 4 = .ok (.bipush 16, 2) := by decide +kernel
theorem d_M_sayName_6 : decode c_M_sayName 6 = .ok (.iload_n 1, 1) := by decide +kernel
theorem d_M_sayName_7 : decode c_M_sayName 7 = .ok (.imul, 1) := by decide +kernel
theorem d_M_sayName_8 : decode c_M_sayName 8 = .ok (.iload_n 2, 1) := by decide +kernel
theorem d_M_sayName_9 : decode c_M_sayName 9 = .ok (.iadd, 1) := by decide +kernel
theorem d_M_sayName_10 : decode c_M_sayName 10 = .ok (.iaload, 1) := by decide +kernel
theorem d_M_sayName_11 : decode c_M_sayName 11 = .ok (.istore_n 3, 1) := by decide +kernel
theorem d_M_sayName_12 : decode c_M_sayName 12 = .ok (.aload_n 0, 1) := by decide +kernel
theorem d_M_sayName_13 : decode c_M_sayName 13 = .ok (.getfield 22, 3) := by decide +kernel
theorem d_M_sayName_16 : decode c_M_sayName 16 = .ok (.iload_n 3, 1) := by decide +kernel
theorem d_M_sayName_17 : decode c_M_sayName 17 = .ok (.iaload, 1) := by decide +kernel
theorem d_M_sayName_18 : decode c_M_sayName 18 = .ok (.istore 4, 2) := by decide +kernel
theorem d_M_sayName_20 : decode c_M_sayName 20 = .ok (.iload 4, 2) := by decide +kernel
theorem d_M_sayName_22 : decode c_M_sayName 22 = .ok (.aload_n 0, 1) := by decide +kernel
theorem d_M_sayName_23 : decode c_M_sayName 23 = .ok (.getfield 25, 3) := by decide +kernel
theorem d_M_sayName_26 : decode c_M_sayName 26 = .ok (.iload_n 3, 1) := by decide +kernel
theorem d_M_sayName_27 : decode c_M_sayName 27 = .ok (.iaload, 1) := by decide +kernel
theorem d_M_sayName_28 : decode c_M_sayName 28 = .ok (.if_icmp .ge 20, 3) := by decide +kernel
theorem d_M_sayName_31 : decode c_M_sayName 31 = .ok (.aload_n 0, 1) := by decide +kernel
theorem d_M_sayName_32 : decode c_M_sayName 32 = .ok (.aload_n 0, 1) := by decide +kernel
theorem d_M_sayName_33 : decode c_M_sayName 33 = .ok (.getfield 19, 3) := by decide +kernel
theorem d_M_sayName_36 : decode c_M_sayName 36 = .ok (.iload 4, 2) := by decide +kernel
theorem d_M_sayName_38 : decode c_M_sayName 38 = .ok (.iaload, 1) := by decide +kernel
theorem d_M_sayName_39 : decode c_M_sayName 39 = .ok (.invokevirtual 194, 3) := by decide +kernel
theorem d_M_sayName_42 : decode c_M_sayName 42 = .ok (.iinc 4 1, 3) := by decide +kernel
theorem d_M_sayName_45 : decode c_M_sayName 45 = .ok (.goto (-25), 3) := by decide +kernel
theorem d_M_sayName_48 : decode c_M_sayName 48 = .ok (.aload_n 0, 1) := by decide +kernel
theorem d_M_sayName_49 : decode c_M_sayName 49 = .ok (.getfield 25, 3) := by decide +kernel
theorem d_M_sayName_52 : decode c_M_sayName 52 = .ok (.iload_n 3, 1) := by decide +kernel
theorem d_M_sayName_53 : decode c_M_sayName 53 = .ok (.iaload, 1) := by decide +kernel
theorem d_M_sayName_54 : decode c_M_sayName 54 = .ok (.aload_n 0, 1) := by decide +kernel
theorem d_M_sayName_55 : decode c_M_sayName 55 = .ok (.getfield 22, 3) := by decide +kernel
theorem d_M_sayName_58 : decode c_M_sayName 58 = .ok (.iload_n 3, 1) := by decide +kernel
theorem d_M_sayName_59 : decode c_M_sayName 59 = .ok (.iaload, 1) := by decide +kernel
theorem d_M_sayName_60 : decode c_M_sayName 60 = .ok (.isub, 1) := by decide +kernel
theorem d_M_sayName_61 : decode c_M_sayName 61 = .ok (.ireturn, 1) := by decide +kernel
theorem d_M_endLine_0 : decode c_M_endLine 0 = .ok (.aload_n 0, 1) := by decide +kernel
theorem d_M_endLine_1 : decode c_M_endLine 1 = .ok (.bipush 59, 2) := by decide +kernel
theorem d_M_endLine_3 : decode c_M_endLine 3 = .ok (.invokevirtual 194, 3) := by decide +kernel
theorem d_M_endLine_6 : decode c_M_endLine 6 = .ok (.aload_n 0, 1) := by decide +kernel
theorem d_M_endLine_7 : decode c_M_endLine 7 = .ok (.bipush 10, 2) := by decide +kernel
theorem d_M_endLine_9 : decode c_M_endLine 9 = .ok (.invokevirtual 194, 3) := by decide +kernel
theorem d_M_endLine_12 : decode c_M_endLine 12 = .ok (.return_, 1) := by decide +kernel
theorem d_M_printPair_0 : decode c_M_printPair 0 = .ok (.aload_n 0, 1) := by decide +kernel
theorem d_M_printPair_1 : decode c_M_printPair 1 = .ok (.iload_n 1, 1) := by decide +kernel
theorem d_M_printPair_2 : decode c_M_printPair 2 = .ok (.iload_n 2, 1) := by decide +kernel
theorem d_M_printPair_3 : decode c_M_printPair 3 = .ok (.invokevirtual 182, 3) := by decide +kernel
theorem d_M_printPair_6 : decode c_M_printPair 6 = .ok (.istore_n 3, 1) := by decide +kernel
theorem d_M_printPair_7 : decode c_M_printPair 7 = .ok (.aload_n 0, 1) := by decide +kernel
theorem d_M_printPair_8 : decode c_M_printPair 8 = .ok (.getfield 40, 3) := by decide +kernel
theorem d_M_printPair_11 : decode c_M_printPair 11 = .ok (.iload_n 3, 1) := by decide +kernel
theorem d_M_printPair_12 : decode c_M_printPair 12 = .ok (.iaload, 1) := by decide +kernel
theorem d_M_printPair_13 : decode c_M_printPair 13 = .ok (.iconst (-1), 1) := by decide +kernel
theorem d_M_printPair_14 : decode c_M_printPair 14 = .ok (.if_icmp .ne 4, 3) := by decide +kernel
theorem d_M_printPair_17 : decode c_M_printPair 17 = .ok (.return_, 1) := by decide +kernel
theorem d_M_printPair_18 : decode c_M_printPair 18 = .ok (.aload_n 0, 1) := by decide +kernel
theorem d_M_printPair_19 : decode c_M_printPair 19 = .ok (.aload_n 0, 1) := by decide +kernel
theorem d_M_printPair_20 : decode c_M_printPair 20 = .ok (.getfield 40, 3) := by decide +kernel
theorem d_M_printPair_23 : decode c_M_printPair 23 = .ok (.iload_n 3, 1) := by decide +kernel
theorem d_M_printPair_24 : decode c_M_printPair 24 = .ok (.iaload, 1) := by decide +kernel
theorem d_M_printPair_25 : decode c_M_printPair 25 = .ok (.bipush (-2), 2) := by decide +kernel
theorem d_M_printPair_27 : decode c_M_printPair 27 = .ok (.if_icmp .ne 7, 3) := by decide +kernel
theorem d_M_printPair_30 : decode c_M_printPair 30 = .ok (.iconst 4, 1) := by decide +kernel
theorem d_M_printPair_31 : decode c_M_printPair 31 = .ok (.goto 4, 3) := by decide +kernel
theorem d_M_printPair_34 : decode c_M_printPair 34 = .ok (.iconst 3, 1) := by decide +kernel
theorem d_M_printPair_35 : decode c_M_printPair 35 = .ok (.invokevirtual 200, 3) := by decide +kernel
theorem d_M_printPair_38 : decode c_M_printPair 38 = .ok (.aload_n 0, 1) := by decide +kernel
theorem d_M_printPair_39 : decode c_M_printPair 39 = .ok (.bipush 32, 2) := by decide +kernel
theorem d_M_printPair_41 : decode c_M_printPair 41 = .ok (.invokevirtual 194, 3) := by decide +kernel
theorem d_M_printPair_44 : decode c_M_printPair 44 = .ok (.aload_n 0, 1) := by decide +kernel
theorem d_M_printPair_45 : decode c_M_printPair 45 = .ok (.iconst 0, 1) := by decide +kernel
theorem d_M_printPair_46 : decode c_M_printPair 46 = .ok (.iload_n 1, 1) := by decide +kernel
theorem d_M_printPair_47 : decode c_M_printPair 47 = .ok (.invokevirtual 197, 3) := by decide +kernel
theorem d_M_printPair_50 : decode c_M_printPair 50 = .ok (.pop, 1) := by decide +kernel
theorem d_M_printPair_51 : decode c_M_printPair 51 = .ok (.aload_n 0, 1) := by decide +kernel
theorem d_M_printPair_52 : decode c_M_printPair 52 = .ok (.bipush 32, 2) := by decide +kernel
theorem d_M_printPair_54 : decode c_M_printPair 54 = .ok (.invokevirtual 194, 3) := by decide +kernel
theorem d_M_printPair_57 : decode c_M_printPair 57 = .ok (.aload_n 0, 1) := by decide +kernel
theorem d_M_printPair_58 : decode c_M_printPair 58 = .ok (.iload_n 2, 1) := by decide +kernel
theorem d_M_printPair_59 : decode c_M_printPair 59 = .ok (.invokevirtual 206, 3) := by decide +kernel
theorem d_M_printPair_62 : decode c_M_printPair 62 = .ok (.pop, 1) := by decide +kernel
theorem d_M_printPair_63 : decode c_M_printPair 63 = .ok (.aload_n 0, 1) := by decide +kernel
theorem d_M_printPair_64 : decode c_M_printPair 64 = .ok (.getfield 40, 3) := by decide +kernel
theorem d_M_printPair_67 : decode c_M_printPair 67 = .ok (.iload_n 3, 1) := by decide +kernel
theorem d_M_printPair_68 : decode c_M_printPair 68 = .ok (.iaload, 1) := by decide +kernel
theorem d_M_printPair_69 : decode c_M_printPair 69 = .ok (.ifCond .lt 44, 3) := by decide +kernel
theorem d_M_printPair_72 : decode c_M_printPair 72 = .ok (.aload_n 0, 1) := by decide +kernel
theorem d_M_printPair_73 : decode c_M_printPair 73 = .ok (.bipush 58, 2) := by decide +kernel
theorem d_M_printPair_75 : decode c_M_printPair 75 = .ok (.invokevirtual 194, 3) := by decide +kernel
theorem d_M_printPair_78 : decode c_M_printPair 78 = .ok (.aload_n 0, 1) := by decide +kernel
theorem d_M_printPair_79 : decode c_M_printPair 79 = .ok (.iload_n 3, 1) := by decide +kernel
theorem d_M_printPair_80 : decode c_M_printPair 80 = .ok (.invokevirtual 209, 3) := by decide +kernel
theorem d_M_printPair_83 : decode c_M_printPair 83 = .ok (.aload_n 0, 1) := by decide +kernel
theorem d_M_printPair_84 : decode c_M_printPair 84 = .ok (.bipush 32, 2) := by decide +kernel
theorem d_M_printPair_86 : decode c_M_printPair 86 = .ok (.invokevirtual 194, 3) := by decide +kernel
theorem d_M_printPair_89 : decode c_M_printPair 89 = .ok (.aload_n 0, 1) := by decide +kernel
theorem d_M_printPair_90 : decode c_M_printPair 90 = .ok (.bipush 62, 2) := by decide +kernel
theorem d_M_printPair_92 : decode c_M_printPair 92 = .ok (.invokevirtual 194, 3) := by decide +kernel
theorem d_M_printPair_95 : decode c_M_printPair 95 = .ok (.aload_n 0, 1) := by decide +kernel
theorem d_M_printPair_96 : decode c_M_printPair 96 = .ok (.bipush 32, 2) := by decide +kernel
theorem d_M_printPair_98 : decode c_M_printPair 98 = .ok (.invokevirtual 194, 3) := by decide +kernel
theorem d_M_printPair_101 : decode c_M_printPair 101 = .ok (.aload_n 0, 1) := by decide +kernel
theorem d_M_printPair_102 : decode c_M_printPair 102 = .ok (.iconst 0, 1) := by decide +kernel
theorem d_M_printPair_103 : decode c_M_printPair 103 = .ok (.aload_n 0, 1) := by decide +kernel
theorem d_M_printPair_104 : decode c_M_printPair 104 = .ok (.getfield 40, 3) := by decide +kernel
theorem d_M_printPair_107 : decode c_M_printPair 107 = .ok (.iload_n 3, 1) := by decide +kernel
theorem d_M_printPair_108 : decode c_M_printPair 108 = .ok (.iaload, 1) := by decide +kernel
theorem d_M_printPair_109 : decode c_M_printPair 109 = .ok (.invokevirtual 197, 3) := by decide +kernel
theorem d_M_printPair_112 : decode c_M_printPair 112 = .ok (.pop, 1) := by decide +kernel
theorem d_M_printPair_113 : decode c_M_printPair 113 = .ok (.aload_n 0, 1) := by decide +kernel
theorem d_M_printPair_114 : decode c_M_printPair 114 = .ok (.invokevirtual 203, 3) := by decide +kernel
theorem d_M_printPair_117 : decode c_M_printPair 117 = .ok (.return_, 1) := by decide +kernel
theorem d_M_sayEvent_0 : decode c_M_sayEvent 0 = .ok (.iload_n 1, 1) := by decide +kernel
theorem d_M_sayEvent_1 : decode c_M_sayEvent 1 = .ok (.aload_n 0, 1) := by decide +kernel
theorem d_M_sayEvent_2 : decode c_M_sayEvent 2 = .ok (.getfield 34, 3) := by decide +kernel
theorem d_M_sayEvent_5 : decode c_M_sayEvent 5 = .ok (.iconst 1, 1) := by decide +kernel
theorem d_M_sayEvent_6 : decode c_M_sayEvent 6 = .ok (.iaload, 1) := by decide +kernel
theorem d_M_sayEvent_7 : decode c_M_sayEvent 7 = .ok (.if_icmp .ge 12, 3) := by decide +kernel
theorem d_M_sayEvent_10 : decode c_M_sayEvent 10 = .ok (.aload_n 0, 1) := by decide +kernel
theorem d_M_sayEvent_11 : decode c_M_sayEvent 11 = .ok (.iconst 1, 1) := by decide +kernel
theorem d_M_sayEvent_12 : decode c_M_sayEvent 12 = .ok (.iload_n 1, 1) := by decide +kernel
theorem d_M_sayEvent_13 : decode c_M_sayEvent 13 = .ok (.invokevirtual 197, 3) := by decide +kernel
theorem d_M_sayEvent_16 : decode c_M_sayEvent 16 = .ok (.goto 16, 3) := by decide +kernel
theorem d_M_sayEvent_19 : decode c_M_sayEvent 19 = .ok (.aload_n 0, 1) := by decide +kernel
theorem d_M_sayEvent_20 : decode c_M_sayEvent 20 = .ok (.iconst 2, 1) := by decide +kernel
theorem d_M_sayEvent_21 : decode c_M_sayEvent 21 = .ok (.iload_n 1, 1) := by decide +kernel
theorem d_M_sayEvent_22 : decode c_M_sayEvent 22 = .ok (.aload_n 0, 1) := by decide +kernel
theorem d_M_sayEvent_23 : decode c_M_sayEvent 23 = .ok (.getfield 34, 3) := by decide +kernel
theorem d_M_sayEvent_26 : decode c_M_sayEvent 26 = .ok (.iconst 1, 1) := by decide +kernel
theorem d_M_sayEvent_27 : decode c_M_sayEvent 27 = .ok (.iaload, 1) := by decide +kernel
theorem d_M_sayEvent_28 : decode c_M_sayEvent 28 = .ok (.isub, 1) := by decide +kernel
theorem d_M_sayEvent_29 : decode c_M_sayEvent 29 = .ok (.invokevirtual 197, 3) := by decide +kernel
theorem d_M_sayEvent_32 : decode c_M_sayEvent 32 = .ok (.ireturn, 1) := by decide +kernel
theorem d_M_printActions_0 : decode c_M_printActions 0 = .ok (.iconst 0, 1) := by decide +kernel
theorem d_M_printActions_1 : decode c_M_printActions 1 = .ok (.istore_n 2, 1) := by decide +kernel
theorem d_M_printActions_2 : decode c_M_printActions 2 = .ok (.iload_n 2, 1) := by decide +kernel
theorem d_M_printActions_3 : decode c_M_printActions 3 = .ok (.iconst 4, 1) := by decide +kernel
theorem d_M_printActions_4 : decode c_M_printActions 4 = .ok (.if_icmp .ge 96, 3) := by decide +kernel
theorem d_M_printActions_7 : decode c_M_printActions 7 = .ok (.aload_n 0, 1) := by decide +kernel
theorem d_M_printActions_8 : decode c_M_printActions 8 = .ok (.getfield 43, 3) := by decide +kernel
theorem d_M_printActions_11 : decode c_M_printActions 11 = .ok (.iconst 4, 1) := by decide +kernel
theorem d_M_printActions_12 : decode c_M_printActions 12 = .ok (.iload_n 1, 1) := by decide +kernel
theorem d_M_printActions_13 : decode c_M_printActions 13 = .ok (.imul, 1) := by decide +kernel
theorem d_M_printActions_14 : decode c_M_printActions 14 = .ok (.iload_n 2, 1) := by decide +kernel
theorem d_M_printActions_15 : decode c_M_printActions 15 = .ok (.iadd, 1) := by decide +kernel
theorem d_M_printActions_16 : decode c_M_printActions 16 = .ok (.iaload, 1) := by decide +kernel
theorem d_M_printActions_17 : decode c_M_printActions 17 = .ok (.ifCond .lt 83, 3) := by decide +kernel
theorem d_M_printActions_20 : decode c_M_printActions 20 = .ok (.aload_n 0, 1) := by decide +kernel
theorem d_M_printActions_21 : decode c_M_printActions 21 = .ok (.getfield 43, 3) := by decide +kernel
theorem d_M_printActions_24 : decode c_M_printActions 24 = .ok (.iconst 4, 1) := by decide +kernel
theorem d_M_printActions_25 : decode c_M_printActions 25 = .ok (.iload_n 1, 1) := by decide +kernel
theorem d_M_printActions_26 : decode c_M_printActions 26 = .ok (.imul, 1) := by decide +kernel
theorem d_M_printActions_27 : decode c_M_printActions 27 = .ok (.iload_n 2, 1) := by decide +kernel
theorem d_M_printActions_28 : decode c_M_printActions 28 = .ok (.iadd, 1) := by decide +kernel
theorem d_M_printActions_29 : decode c_M_printActions 29 = .ok (.iaload, 1) := by decide +kernel
theorem d_M_printActions_30 : decode c_M_printActions 30 = .ok (.istore_n 3, 1) := by decide +kernel
theorem d_M_printActions_31 : decode c_M_printActions 31 = .ok (.iload_n 2, 1) := by decide +kernel
theorem d_M_printActions_32 : decode c_M_printActions 32 = .ok (.ifCond .le 9, 3) := by decide +kernel
theorem d_M_printActions_35 : decode c_M_printActions 35 = .ok (.aload_n 0, 1) := by decide +kernel
theorem d_M_printActions_36 : decode c_M_printActions 36 = .ok (.bipush 44, 2) := by decide +kernel
theorem d_M_printActions_38 : decode c_M_printActions 38 = .ok (.invokevirtual 194, 3) := by decide +kernel
theorem d_M_printActions_41 : decode c_M_printActions 41 = .ok (.aload_n 0, 1) := by decide +kernel
theorem d_M_printActions_42 : decode c_M_printActions 42 = .ok (.bipush 32, 2) := by decide +kernel
theorem d_M_printActions_44 : decode c_M_printActions 44 = .ok (.invokevirtual 194, 3) := by decide +kernel
theorem d_M_printActions_47 : decode c_M_printActions 47 = .ok (.aload_n 0, 1) := by decide +kernel
theorem d_M_printActions_48 : decode c_M_printActions 48 = .ok (.iload_n 3, 1) := by decide +kernel
theorem d_M_printActions_49 : decode c_M_printActions 49 = .ok (.bipush 100, 2) := by decide +kernel
theorem d_M_printActions_51 : decode c_M_printActions 51 = .ok (.if_icmp .ne 8, 3) := by decide +kernel
theorem d_M_printActions_54 : decode c_M_printActions 54 = .ok (.bipush 7, 2) := by decide +kernel
theorem d_M_printActions_56 : decode c_M_printActions 56 = .ok (.goto 16, 3) := by decide +kernel
theorem d_M_printActions_59 : decode c_M_printActions 59 = .ok (.iload_n 3, 1) := by decide +kernel
theorem d_M_printActions_60 : decode c_M_printActions 60 = .ok (.bipush 101, 2) := by decide +kernel
theorem d_M_printActions_62 : decode c_M_printActions 62 = .ok (.if_icmp .ne 8, 3) := by decide +kernel
theorem d_M_printActions_65 : decode c_M_printActions 65 = .ok (.bipush 8, 2) := by decide +kernel
theorem d_M_printActions_67 : decode c_M_printActions 67 = .ok (.goto 5, 3) := by decide +kernel
theorem d_M_printActions_70 : decode c_M_printActions 70 = .ok (.bipush 6, 2) := by decide +kernel
theorem d_M_printActions_72 : decode c_M_printActions 72 = .ok (.invokevirtual 200, 3) := by decide +kernel
theorem d_M_printActions_75 : decode c_M_printActions 75 = .ok (.iload_n 3, 1) := by decide +kernel
theorem d_M_printActions_76 : decode c_M_printActions 76 = .ok (.bipush 100, 2) := by decide +kernel
theorem d_M_printActions_78 : decode c_M_printActions 78 = .ok (.if_icmp .ge 16, 3) := by decide +kernel
theorem d_M_printActions_81 : decode c_M_printActions 81 = .ok (.aload_n 0, 1) := by decide +kernel
theorem d_M_printActions_82 : decode c_M_printActions 82 = .ok (.bipush 32, 2) := by decide +kernel
theorem d_M_printActions_84 : decode c_M_printActions 84 = .ok (.invokevirtual 194, 3) := by decide +kernel
theorem d_M_printActions_87 : decode c_M_printActions 87 = .ok (.aload_n 0, 1) := by decide +kernel
theorem d_M_printActions_88 : decode c_M_printActions 88 = .ok (.iconst 2, 1) := by decide +kernel
theorem d_M_printActions_89 : decode c_M_printActions 89 = .ok (.iload_n 3, 1) := by decide +kernel
theorem d_M_printActions_90 : decode c_M_printActions 90 = .ok (.invokevirtual 197, 3) := by decide +kernel
theorem d_M_printActions_93 : decode c_M_printActions 93 = .ok (.pop, 1) := by decide +kernel
theorem d_M_printActions_94 : decode c_M_printActions 94 = .ok (.iinc 2 1, 3) := by decide +kernel
theorem d_M_printActions_97 : decode c_M_printActions 97 = .ok (.goto (-95), 3) := by decide +kernel
theorem d_M_printActions_100 : decode c_M_printActions 100 = .ok (.return_, 1) := by decide +kernel
theorem d_M_draw_0 : decode c_M_draw 0 = .ok (.aload_n 0, 1) := by decide +kernel
theorem d_M_draw_1 : decode c_M_draw 1 = .ok (.iconst 0, 1) := by decide +kernel
theorem d_M_draw_2 : decode c_M_draw 2 = .ok (.putfield 55, 3) := by decide +kernel
theorem d_M_draw_5 : decode c_M_draw 5 = .ok (.aload_n 0, 1) := by decide +kernel
theorem d_M_draw_6 : decode c_M_draw 6 = .ok (.iconst 0, 1) := by decide +kernel
theorem d_M_draw_7 : decode c_M_draw 7 = .ok (.putfield 191, 3) := by decide +kernel
theorem d_M_draw_10 : decode c_M_draw 10 = .ok (.iconst 0, 1) := by decide +kernel
theorem d_M_draw_11 : decode c_M_draw 11 = .ok (.istore_n 1, 1) := by decide +kernel
theorem d_M_draw_12 : decode c_M_draw 12 = .ok (.iconst 0, 1) := by decide +kernel
theorem d_M_draw_13 : decode c_M_draw 13 = .ok (.istore_n 2, 1) := by decide +kernel
theorem d_M_draw_14 : decode c_M_draw 14 = .ok (.iload_n 2, 1) := by decide +kernel
theorem d_M_draw_15 : decode c_M_draw 15 = .ok (.aload_n 0, 1) := by decide +kernel
theorem d_M_draw_16 : decode c_M_draw 16 = .ok (.getfield 34, 3) := by decide +kernel
theorem d_M_draw_19 : decode c_M_draw 19 = .ok (.iconst 0, 1) := by decide +kernel
theorem d_M_draw_20 : decode c_M_draw 20 = .ok (.iaload, 1) := by decide +kernel
theorem d_M_draw_21 : decode c_M_draw 21 = .ok (.if_icmp .ge 30, 3) := by decide +kernel
theorem d_M_draw_24 : decode c_M_draw 24 = .ok (.aload_n 0, 1) := by decide +kernel
theorem d_M_draw_25 : decode c_M_draw 25 = .ok (.iconst 0, 1) := by decide +kernel
theorem d_M_draw_26 : decode c_M_draw 26 = .ok (.iload_n 2, 1) := by decide +kernel
theorem d_M_draw_27 : decode c_M_draw 27 = .ok (.invokevirtual 218, 3) := by decide +kernel
theorem d_M_draw_30 : decode c_M_draw 30 = .ok (.iload_n 1, 1) := by decide +kernel
theorem d_M_draw_31 : decode c_M_draw 31 = .ok (.if_icmp .le 12, 3) := by decide +kernel
theorem d_M_draw_34 : decode c_M_draw 34 = .ok (.aload_n 0, 1) := by decide +kernel
theorem d_M_draw_35 : decode c_M_draw 35 = .ok (.iconst 0, 1) := by decide +kernel
theorem d_M_draw_36 : decode c_M_draw 36 = .ok (.iload_n 2, 1) := by decide +kernel
theorem d_M_draw_37 : decode c_M_draw 37 = .ok (.invokevirtual 218, 3) := by decide +kernel
theorem d_M_draw_40 : decode c_M_draw 40 = .ok (.goto 4, 3) := by decide +kernel
theorem d_M_draw_43 : decode c_M_draw 43 = .ok (.iload_n 1, 1) := by decide +kernel
theorem d_M_draw_44 : decode c_M_draw 44 = .ok (.istore_n 1, 1) := by decide +kernel
theorem d_M_draw_45 : decode c_M_draw 45 = .ok (.iinc 2 1, 3) := by decide +kernel
theorem d_M_draw_48 : decode c_M_draw 48 = .ok (.goto (-34), 3) := by decide +kernel
theorem d_M_draw_51 : decode c_M_draw 51 = .ok (.iconst (-1), 1) := by decide +kernel
theorem d_M_draw_52 : decode c_M_draw 52 = .ok (.istore_n 2, 1) := by decide +kernel
theorem d_M_draw_53 : decode c_M_draw 53 = .ok (.iload_n 2, 1) := by decide +kernel
theorem d_M_draw_54 : decode c_M_draw 54 = .ok (.aload_n 0, 1) := by decide +kernel
theorem d_M_draw_55 : decode c_M_draw 55 = .ok (.getfield 34, 3) := by decide +kernel
theorem d_M_draw_58 : decode c_M_draw 58 = .ok (.iconst 0, 1) := by decide +kernel
theorem d_M_draw_59 : decode c_M_draw 59 = .ok (.iaload, 1) := by decide +kernel
theorem d_M_draw_60 : decode c_M_draw 60 = .ok (.if_icmp .ge 64, 3) := by decide +kernel
theorem d_M_draw_63 : decode c_M_draw 63 = .ok (.aload_n 0, 1) := by decide +kernel
theorem d_M_draw_64 : decode c_M_draw 64 = .ok (.getfield 191, 3) := by decide +kernel
theorem d_M_draw_67 : decode c_M_draw 67 = .ok (.istore_n 3, 1) := by decide +kernel
theorem d_M_draw_68 : decode c_M_draw 68 = .ok (.aload_n 0, 1) := by decide +kernel
theorem d_M_draw_69 : decode c_M_draw 69 = .ok (.iload_n 2, 1) := by decide +kernel
theorem d_M_draw_70 : decode c_M_draw 70 = .ok (.ifCond .ge 7, 3) := by decide +kernel
theorem d_M_draw_73 : decode c_M_draw 73 = .ok (.iload_n 1, 1) := by decide +kernel
theorem d_M_draw_74 : decode c_M_draw 74 = .ok (.goto 11, 3) := by decide +kernel
theorem d_M_draw_77 : decode c_M_draw 77 = .ok (.iload_n 1, 1) := by decide +kernel
theorem d_M_draw_78 : decode c_M_draw 78 = .ok (.aload_n 0, 1) := by decide +kernel
theorem d_M_draw_79 : decode c_M_draw 79 = .ok (.iconst 0, 1) := by decide +kernel
theorem d_M_draw_80 : decode c_M_draw 80 = .ok (.iload_n 2, 1) := by decide +kernel
theorem d_M_draw_81 : decode c_M_draw 81 = .ok (.invokevirtual 197, 3) := by decide +kernel
theorem d_M_draw_84 : decode c_M_draw 84 = .ok (.isub, 1) := by decide +kernel
theorem d_M_draw_85 : decode c_M_draw 85 = .ok (.invokevirtual 224, 3) := by decide +kernel
theorem d_M_draw_88 : decode c_M_draw 88 = .ok (.iconst 0, 1) := by decide +kernel
theorem d_M_draw_89 : decode c_M_draw 89 = .ok (.istore 4, 2) := by decide +kernel
theorem d_M_draw_91 : decode c_M_draw 91 = .ok (.iload 4, 2) := by decide +kernel
theorem d_M_draw_93 : decode c_M_draw 93 = .ok (.aload_n 0, 1) := by decide +kernel
theorem d_M_draw_94 : decode c_M_draw 94 = .ok (.invokevirtual 172, 3) := by decide +kernel
theorem d_M_draw_97 : decode c_M_draw 97 = .ok (.if_icmp .ge 16, 3) := by decide +kernel
theorem d_M_draw_100 : decode c_M_draw 100 = .ok (.aload_n 0, 1) := by decide +kernel
theorem d_M_draw_101 : decode c_M_draw 101 = .ok (.iload_n 2, 1) := by decide +kernel
theorem d_M_draw_102 : decode c_M_draw 102 = .ok (.iload 4, 2) := by decide +kernel
theorem d_M_draw_104 : decode c_M_draw 104 = .ok (.invokevirtual 227, 3) := by decide +kernel
theorem d_M_draw_107 : decode c_M_draw 107 = .ok (.iinc 4 1, 3) := by decide +kernel
theorem d_M_draw_110 : decode c_M_draw 110 = .ok (.goto (-19), 3) := by decide +kernel
theorem d_M_draw_113 : decode c_M_draw 113 = .ok (.aload_n 0, 1) := by decide +kernel
theorem d_M_draw_114 : decode c_M_draw 114 = .ok (.iload_n 3, 1) := by decide +kernel
theorem d_M_draw_115 : decode c_M_draw 115 = .ok (.invokevirtual 230, 3) := by decide +kernel
theorem d_M_draw_118 : decode c_M_draw 118 = .ok (.iinc 2 1, 3) := by decide +kernel
theorem d_M_draw_121 : decode c_M_draw 121 = .ok (.goto (-68), 3) := by decide +kernel
theorem d_M_draw_124 : decode c_M_draw 124 = .ok (.aload_n 0, 1) := by decide +kernel
theorem d_M_draw_125 : decode c_M_draw 125 = .ok (.getfield 191, 3) := by decide +kernel
theorem d_M_draw_128 : decode c_M_draw 128 = .ok (.ireturn, 1) := by decide +kernel
theorem d_M_lengthOf_0 : decode c_M_lengthOf 0 = .ok (.aload_n 0, 1) := by decide +kernel
theorem d_M_lengthOf_1 : decode c_M_lengthOf 1 = .ok (.getfield 25, 3) := by decide +kernel
theorem d_M_lengthOf_4 : decode c_M_lengthOf 4 = .ok (.aload_n 0, 1) := by decide +kernel
theorem d_M_lengthOf_5 : decode c_M_lengthOf 5 = .ok (.getfield 37, 3) := by decide +kernel
theorem d_M_lengthOf_8 : decode c_M_lengthOf 8 = .ok (.bipush 16, 2) := by decide +kernel
theorem d_M_lengthOf_10 : decode c_M_lengthOf 10 = .ok (.iload_n 1, 1) := by decide +kernel
theorem d_M_lengthOf_11 : decode c_M_lengthOf 11 = .ok (.imul, 1) := by decide +kernel
theorem d_M_lengthOf_12 : decode c_M_lengthOf 12 = .ok (.iload_n 2, 1) := by decide +kernel
theorem d_M_lengthOf_13 : decode c_M_lengthOf 13 = .ok (.iadd, 1) := by decide +kernel
theorem d_M_lengthOf_14 : decode c_M_lengthOf 14 = .ok (.iaload, 1) := by decide +kernel
theorem d_M_lengthOf_15 : decode c_M_lengthOf 15 = .ok (.iaload, 1) := by decide +kernel
theorem d_M_lengthOf_16 : decode c_M_lengthOf 16 = .ok (.aload_n 0, 1) := by decide +kernel
theorem d_M_lengthOf_17 : decode c_M_lengthOf 17 = .ok (.getfield 22, 3) := by decide +kernel
theorem d_M_lengthOf_20 : decode c_M_lengthOf 20 = .ok (.aload_n 0, 1) := by decide +kernel
theorem d_M_lengthOf_21 : decode c_M_lengthOf 21 = .ok (.getfield 37, 3) := by decide +kernel
theorem d_M_lengthOf_24 : decode c_M_lengthOf 24 = .ok (.bipush 16, 2) := by decide +kernel
theorem d_M_lengthOf_26 : decode c_M_lengthOf 26 = .ok (.iload_n 1, 1) := by decide +kernel
theorem d_M_lengthOf_27 : decode c_M_lengthOf 27 = .ok (.imul, 1) := by decide +kernel
theorem d_M_lengthOf_28 : decode c_M_lengthOf 28 = .ok (.iload_n 2, 1) := by decide +kernel
theorem d_M_lengthOf_29 : decode c_M_lengthOf 29 = .ok (.iadd, 1) := by decide +kernel
theorem d_M_lengthOf_30 : decode c_M_lengthOf 30 = .ok (.iaload, 1) := by decide +kernel
theorem d_M_lengthOf_31 : decode c_M_lengthOf 31 = .ok (.iaload, 1) := by decide +kernel
theorem d_M_lengthOf_32 : decode c_M_lengthOf 32 = .ok (.isub, 1) := by decide +kernel
theorem d_M_lengthOf_33 : decode c_M_lengthOf 33 = .ok (.ireturn, 1) := by decide +kernel
theorem d_M_fill_0 : decode c_M_fill 0 = .ok (.iconst 0, 1) := by decide +kernel
theorem d_M_fill_1 : decode c_M_fill 1 = .ok (.istore_n 2, 1) := by decide +kernel
theorem d_M_fill_2 : decode c_M_fill 2 = .ok (.iload_n 2, 1) := by decide +kernel
theorem d_M_fill_3 : decode c_M_fill 3 = .ok (.iload_n 1, 1) := by decide +kernel
theorem d_M_fill_4 : decode c_M_fill 4 = .ok (.if_icmp .ge 15, 3) := by decide +kernel
theorem d_M_fill_7 : decode c_M_fill 7 = .ok (.aload_n 0, 1) := by decide +kernel
theorem d_M_fill_8 : decode c_M_fill 8 = .ok (.bipush 32, 2) := by decide +kernel
theorem d_M_fill_10 : decode c_M_fill 10 = .ok (.invokevirtual 194, 3) := by decide +kernel
theorem d_M_fill_13 : decode c_M_fill 13 = .ok (.iinc 2 1, 3) := by decide +kernel
theorem d_M_fill_16 : decode c_M_fill 16 = .ok (.goto (-14), 3) := by decide +kernel
theorem d_M_fill_19 : decode c_M_fill 19 = .ok (.return_, 1) := by decide +kernel
theorem d_M_drawCell_0 : decode c_M_drawCell 0 = .ok (.iconst 1, 1) := by decide +kernel
theorem d_M_drawCell_1 : decode c_M_drawCell 1 = .ok (.istore_n 3, 1) := by decide +kernel
theorem d_M_drawCell_2 : decode c_M_drawCell 2 = .ok (.aload_n 0, 1) := by decide +kernel
theorem d_M_drawCell_3 : decode c_M_drawCell 3 = .ok (.bipush 32, 2) := by decide +kernel
theorem d_M_drawCell_5 : decode c_M_drawCell 5 = .ok (.invokevirtual 194, 3) := by decide +kernel
theorem d_M_drawCell_8 : decode c_M_drawCell 8 = .ok (.iload_n 1, 1) := by decide +kernel
theorem d_M_drawCell_9 : decode c_M_drawCell 9 = .ok (.ifCond .ge 12, 3) := by decide +kernel
theorem d_M_drawCell_12 : decode c_M_drawCell 12 = .ok (.aload_n 0, 1) := by decide +kernel
theorem d_M_drawCell_13 : decode c_M_drawCell 13 = .ok (.iload_n 2, 1) := by decide +kernel
theorem d_M_drawCell_14 : decode c_M_drawCell 14 = .ok (.invokevirtual 206, 3) := by decide +kernel
theorem d_M_drawCell_17 : decode c_M_drawCell 17 = .ok (.istore_n 3, 1) := by decide +kernel
theorem d_M_drawCell_18 : decode c_M_drawCell 18 = .ok (.goto 64, 3) := by decide +kernel
theorem d_M_drawCell_21 : decode c_M_drawCell 21 = .ok (.aload_n 0, 1) := by decide +kernel
theorem d_M_drawCell_22 : decode c_M_drawCell 22 = .ok (.getfield 40, 3) := by decide +kernel
theorem d_M_drawCell_25 : decode c_M_drawCell 25 = .ok (.aload_n 0, 1) := by decide +kernel
theorem d_M_drawCell_26 : decode c_M_drawCell 26 = .ok (.iload_n 1, 1) := by decide +kernel
theorem d_M_drawCell_27 : decode c_M_drawCell 27 = .ok (.iload_n 2, 1) := by decide +kernel
theorem d_M_drawCell_28 : decode c_M_drawCell 28 = .ok (.invokevirtual 182, 3) := by decide +kernel
theorem d_M_drawCell_31 : decode c_M_drawCell 31 = .ok (.iaload, 1) := by decide +kernel
theorem d_M_drawCell_32 : decode c_M_drawCell 32 = .ok (.ifCond .lt 23, 3) := by decide +kernel
theorem d_M_drawCell_35 : decode c_M_drawCell 35 = .ok (.aload_n 0, 1) := by decide +kernel
theorem d_M_drawCell_36 : decode c_M_drawCell 36 = .ok (.iconst 0, 1) := by decide +kernel
theorem d_M_drawCell_37 : decode c_M_drawCell 37 = .ok (.aload_n 0, 1) := by decide +kernel
theorem d_M_drawCell_38 : decode c_M_drawCell 38 = .ok (.getfield 40, 3) := by decide +kernel
theorem d_M_drawCell_41 : decode c_M_drawCell 41 = .ok (.aload_n 0, 1) := by decide +kernel
theorem d_M_drawCell_42 : decode c_M_drawCell 42 = .ok (.iload_n 1, 1) := by decide +kernel
theorem d_M_drawCell_43 : decode c_M_drawCell 43 = .ok (.iload_n 2, 1) := by decide +kernel
theorem d_M_drawCell_44 : decode c_M_drawCell 44 = .ok (.invokevirtual 182, 3) := by decide +kernel
theorem d_M_drawCell_47 : decode c_M_drawCell 47 = .ok (.iaload, 1) := by decide +kernel
theorem d_M_drawCell_48 : decode c_M_drawCell 48 = .ok (.invokevirtual 197, 3) := by decide +kernel
theorem d_M_drawCell_51 : decode c_M_drawCell 51 = .ok (.istore_n 3, 1) := by decide +kernel
theorem d_M_drawCell_52 : decode c_M_drawCell 52 = .ok (.goto 30, 3) := by decide +kernel
theorem d_M_drawCell_55 : decode c_M_drawCell 55 = .ok (.aload_n 0, 1) := by decide +kernel
theorem d_M_drawCell_56 : decode c_M_drawCell 56 = .ok (.aload_n 0, 1) := by decide +kernel
theorem d_M_drawCell_57 : decode c_M_drawCell 57 = .ok (.getfield 40, 3) := by decide +kernel
theorem d_M_drawCell_60 : decode c_M_drawCell 60 = .ok (.aload_n 0, 1) := by decide +kernel
theorem d_M_drawCell_61 : decode c_M_drawCell 61 = .ok (.iload_n 1, 1) := by decide +kernel
theorem d_M_drawCell_62 : decode c_M_drawCell 62 = .ok (.iload_n 2, 1) := by decide +kernel
theorem d_M_drawCell_63 : decode c_M_drawCell 63 = .ok (.invokevirtual 182, 3) := by decide +kernel
theorem d_M_drawCell_66 : decode c_M_drawCell 66 = .ok (.iaload, 1) := by decide +kernel
theorem d_M_drawCell_67 : decode c_M_drawCell 67 = .ok (.bipush (-2), 2) := by decide +kernel
theorem d_M_drawCell_69 : decode c_M_drawCell 69 = .ok (.if_icmp .ne 8, 3) := by decide +kernel
theorem d_M_drawCell_72 : decode c_M_drawCell 72 = .ok (.bipush 45, 2) := by decide +kernel
theorem d_M_drawCell_74 : decode c_M_drawCell 74 = .ok (.goto 5, 3) := by decide +kernel
theorem d_M_drawCell_77 : decode c_M_drawCell 77 = .ok (.bipush 63, 2) := by decide +kernel
theorem d_M_drawCell_79 : decode c_M_drawCell 79 = .ok (.invokevirtual 194, 3) := by decide +kernel
theorem d_M_drawCell_82 : decode c_M_drawCell 82 = .ok (.aload_n 0, 1) := by decide +kernel
theorem d_M_drawCell_83 : decode c_M_drawCell 83 = .ok (.aload_n 0, 1) := by decide +kernel
theorem d_M_drawCell_84 : decode c_M_drawCell 84 = .ok (.iload_n 2, 1) := by decide +kernel
theorem d_M_drawCell_85 : decode c_M_drawCell 85 = .ok (.invokevirtual 221, 3) := by decide +kernel
theorem d_M_drawCell_88 : decode c_M_drawCell 88 = .ok (.iload_n 3, 1) := by decide +kernel
theorem d_M_drawCell_89 : decode c_M_drawCell 89 = .ok (.isub, 1) := by decide +kernel
theorem d_M_drawCell_90 : decode c_M_drawCell 90 = .ok (.invokevirtual 224, 3) := by decide +kernel
theorem d_M_drawCell_93 : decode c_M_drawCell 93 = .ok (.return_, 1) := by decide +kernel
theorem d_M_widthOf_0 : decode c_M_widthOf 0 = .ok (.iload_n 1, 1) := by decide +kernel
theorem d_M_widthOf_1 : decode c_M_widthOf 1 = .ok (.aload_n 0, 1) := by decide +kernel
theorem d_M_widthOf_2 : decode c_M_widthOf 2 = .ok (.getfield 34, 3) := by decide +kernel
theorem d_M_widthOf_5 : decode c_M_widthOf 5 = .ok (.iconst 1, 1) := by decide +kernel
theorem d_M_widthOf_6 : decode c_M_widthOf 6 = .ok (.iaload, 1) := by decide +kernel
theorem d_M_widthOf_7 : decode c_M_widthOf 7 = .ok (.if_icmp .ge 12, 3) := by decide +kernel
theorem d_M_widthOf_10 : decode c_M_widthOf 10 = .ok (.aload_n 0, 1) := by decide +kernel
theorem d_M_widthOf_11 : decode c_M_widthOf 11 = .ok (.iconst 1, 1) := by decide +kernel
theorem d_M_widthOf_12 : decode c_M_widthOf 12 = .ok (.iload_n 1, 1) := by decide +kernel
theorem d_M_widthOf_13 : decode c_M_widthOf 13 = .ok (.invokevirtual 218, 3) := by decide +kernel
theorem d_M_widthOf_16 : decode c_M_widthOf 16 = .ok (.goto 16, 3) := by decide +kernel
theorem d_M_widthOf_19 : decode c_M_widthOf 19 = .ok (.aload_n 0, 1) := by decide +kernel
theorem d_M_widthOf_20 : decode c_M_widthOf 20 = .ok (.iconst 2, 1) := by decide +kernel
theorem d_M_widthOf_21 : decode c_M_widthOf 21 = .ok (.iload_n 1, 1) := by decide +kernel
theorem d_M_widthOf_22 : decode c_M_widthOf 22 = .ok (.aload_n 0, 1) := by decide +kernel
theorem d_M_widthOf_23 : decode c_M_widthOf 23 = .ok (.getfield 34, 3) := by decide +kernel
theorem d_M_widthOf_26 : decode c_M_widthOf 26 = .ok (.iconst 1, 1) := by decide +kernel
theorem d_M_widthOf_27 : decode c_M_widthOf 27 = .ok (.iaload, 1) := by decide +kernel
theorem d_M_widthOf_28 : decode c_M_widthOf 28 = .ok (.isub, 1) := by decide +kernel
theorem d_M_widthOf_29 : decode c_M_widthOf 29 = .ok (.invokevirtual 218, 3) := by decide +kernel
theorem d_M_widthOf_32 : decode c_M_widthOf 32 = .ok (.istore_n 2, 1) := by decide +kernel
theorem d_M_widthOf_33 : decode c_M_widthOf 33 = .ok (.iconst 0, 1) := by decide +kernel
theorem d_M_widthOf_34 : decode c_M_widthOf 34 = .ok (.istore_n 3, 1) := by decide +kernel
theorem d_M_widthOf_35 : decode c_M_widthOf 35 = .ok (.iload_n 3, 1) := by decide +kernel
theorem d_M_widthOf_36 : decode c_M_widthOf 36 = .ok (.aload_n 0, 1) := by decide +kernel
theorem d_M_widthOf_37 : decode c_M_widthOf 37 = .ok (.getfield 34, 3) := by decide +kernel
theorem d_M_widthOf_40 : decode c_M_widthOf 40 = .ok (.iconst 0, 1) := by decide +kernel
theorem d_M_widthOf_41 : decode c_M_widthOf 41 = .ok (.iaload, 1) := by decide +kernel
theorem d_M_widthOf_42 : decode c_M_widthOf 42 = .ok (.if_icmp .ge 60, 3) := by decide +kernel
theorem d_M_widthOf_45 : decode c_M_widthOf 45 = .ok (.aload_n 0, 1) := by decide +kernel
theorem d_M_widthOf_46 : decode c_M_widthOf 46 = .ok (.getfield 40, 3) := by decide +kernel
theorem d_M_widthOf_49 : decode c_M_widthOf 49 = .ok (.aload_n 0, 1) := by decide +kernel
theorem d_M_widthOf_50 : decode c_M_widthOf 50 = .ok (.iload_n 3, 1) := by decide +kernel
theorem d_M_widthOf_51 : decode c_M_widthOf 51 = .ok (.iload_n 1, 1) := by decide +kernel
theorem d_M_widthOf_52 : decode c_M_widthOf 52 = .ok (.invokevirtual 182, 3) := by decide +kernel
theorem d_M_widthOf_55 : decode c_M_widthOf 55 = .ok (.iaload, 1) := by decide +kernel
theorem d_M_widthOf_56 : decode c_M_widthOf 56 = .ok (.ifCond .lt 40, 3) := by decide +kernel
theorem d_M_widthOf_59 : decode c_M_widthOf 59 = .ok (.aload_n 0, 1) := by decide +kernel
theorem d_M_widthOf_60 : decode c_M_widthOf 60 = .ok (.iconst 0, 1) := by decide +kernel
theorem d_M_widthOf_61 : decode c_M_widthOf 61 = .ok (.aload_n 0, 1) := by decide +kernel
theorem d_M_widthOf_62 : decode c_M_widthOf 62 = .ok (.getfield 40, 3) := by decide +kernel
theorem d_M_widthOf_65 : decode c_M_widthOf 65 = .ok (.aload_n 0, 1) := by decide +kernel
theorem d_M_widthOf_66 : decode c_M_widthOf 66 = .ok (.iload_n 3, 1) := by decide +kernel
theorem d_M_widthOf_67 : decode c_M_widthOf 67 = .ok (.iload_n 1, 1) := by decide +kernel
theorem d_M_widthOf_68 : decode c_M_widthOf 68 = .ok (.invokevirtual 182, 3) := by decide +kernel
theorem d_M_widthOf_71 : decode c_M_widthOf 71 = .ok (.iaload, 1) := by decide +kernel
theorem d_M_widthOf_72 : decode c_M_widthOf 72 = .ok (.invokevirtual 218, 3) := by decide +kernel
theorem d_M_widthOf_75 : decode c_M_widthOf 75 = .ok (.iload_n 2, 1) := by decide +kernel
theorem d_M_widthOf_76 : decode c_M_widthOf 76 = .ok (.if_icmp .le 20, 3) := by decide +kernel
theorem d_M_widthOf_79 : decode c_M_widthOf 79 = .ok (.aload_n 0, 1) := by decide +kernel
theorem d_M_widthOf_80 : decode c_M_widthOf 80 = .ok (.iconst 0, 1) := by decide +kernel
theorem d_M_widthOf_81 : decode c_M_widthOf 81 = .ok (.aload_n 0, 1) := by decide +kernel
theorem d_M_widthOf_82 : decode c_M_widthOf 82 = .ok (.getfield 40, 3) := by decide +kernel
theorem d_M_widthOf_85 : decode c_M_widthOf 85 = .ok (.aload_n 0, 1) := by decide +kernel
theorem d_M_widthOf_86 : decode c_M_widthOf 86 = .ok (.iload_n 3, 1) := by decide +kernel
theorem d_M_widthOf_87 : decode c_M_widthOf 87 = .ok (.iload_n 1, 1) := by decide +kernel
theorem d_M_widthOf_88 : decode c_M_widthOf 88 = .ok (.invokevirtual 182, 3) := by decide +kernel
theorem d_M_widthOf_91 : decode c_M_widthOf 91 = .ok (.iaload, 1) := by decide +kernel
theorem d_M_widthOf_92 : decode c_M_widthOf 92 = .ok (.invokevirtual 218, 3) := by decide +kernel
theorem d_M_widthOf_95 : decode c_M_widthOf 95 = .ok (.istore_n 2, 1) := by decide +kernel
theorem d_M_widthOf_96 : decode c_M_widthOf 96 = .ok (.iinc 3 1, 3) := by decide +kernel
theorem d_M_widthOf_99 : decode c_M_widthOf 99 = .ok (.goto (-64), 3) := by decide +kernel
theorem d_M_widthOf_102 : decode c_M_widthOf 102 = .ok (.iload_n 2, 1) := by decide +kernel
theorem d_M_widthOf_103 : decode c_M_widthOf 103 = .ok (.ireturn, 1) := by decide +kernel
theorem d_M_endDrawn_0 : decode c_M_endDrawn 0 = .ok (.aload_n 0, 1) := by decide +kernel
theorem d_M_endDrawn_1 : decode c_M_endDrawn 1 = .ok (.getfield 191, 3) := by decide +kernel
theorem d_M_endDrawn_4 : decode c_M_endDrawn 4 = .ok (.iload_n 1, 1) := by decide +kernel
theorem d_M_endDrawn_5 : decode c_M_endDrawn 5 = .ok (.if_icmp .le 32, 3) := by decide +kernel
theorem d_M_endDrawn_8 : decode c_M_endDrawn 8 = .ok (.aload_n 0, 1) := by decide +kernel
theorem d_M_endDrawn_9 : decode c_M_endDrawn 9 = .ok (.getfield 16, 3) := by decide +kernel
theorem d_M_endDrawn_12 : decode c_M_endDrawn 12 = .ok (.aload_n 0, 1) := by decide +kernel
theorem d_M_endDrawn_13 : decode c_M_endDrawn 13 = .ok (.getfield 191, 3) := by decide +kernel
theorem d_M_endDrawn_16 : decode c_M_endDrawn 16 = .ok (.iconst 1, 1) := by decide +kernel
theorem d_M_endDrawn_17 : decode c_M_endDrawn 17 = .ok (.isub, 1) := by decide +kernel
theorem d_M_endDrawn_18 : decode c_M_endDrawn 18 = .ok (.iaload, 1) := by decide +kernel
theorem d_M_endDrawn_19 : decode c_M_endDrawn 19 = .ok (.bipush 32, 2) := by decide +kernel
theorem d_M_endDrawn_21 : decode c_M_endDrawn 21 = .ok (.if_icmp .ne 16, 3) := by decide +kernel
theorem d_M_endDrawn_24 : decode c_M_endDrawn 24 = .ok (.aload_n 0, 1) := by decide +kernel
theorem d_M_endDrawn_25 : decode c_M_endDrawn 25 = .ok (.dup, 1) := by decide +kernel
theorem d_M_endDrawn_26 : decode c_M_endDrawn 26 = .ok (.getfield 191, 3) := by decide +kernel
theorem d_M_endDrawn_29 : decode c_M_endDrawn 29 = .ok (.iconst 1, 1) := by decide +kernel
theorem d_M_endDrawn_30 : decode c_M_endDrawn 30 = .ok (.isub, 1) := by decide +kernel
theorem d_M_endDrawn_31 : decode c_M_endDrawn 31 = .ok (.putfield 191, 3) := by decide +kernel
theorem d_M_endDrawn_34 : decode c_M_endDrawn 34 = .ok (.goto (-34), 3) := by decide +kernel
theorem d_M_endDrawn_37 : decode c_M_endDrawn 37 = .ok (.aload_n 0, 1) := by decide +kernel
theorem d_M_endDrawn_38 : decode c_M_endDrawn 38 = .ok (.bipush 10, 2) := by decide +kernel
theorem d_M_endDrawn_40 : decode c_M_endDrawn 40 = .ok (.invokevirtual 194, 3) := by decide +kernel
theorem d_M_endDrawn_43 : decode c_M_endDrawn 43 = .ok (.return_, 1) := by decide +kernel
theorem d_M_out_0 : decode c_M_out 0 = .ok (.aload_n 0, 1) := by decide +kernel
theorem d_M_out_1 : decode c_M_out 1 = .ok (.iconst 0, 1) := by decide +kernel
theorem d_M_out_2 : decode c_M_out 2 = .ok (.putfield 55, 3) := by decide +kernel
theorem d_M_out_5 : decode c_M_out 5 = .ok (.iload_n 1, 1) := by decide +kernel
theorem d_M_out_6 : decode c_M_out 6 = .ok (.iconst 0, 1) := by decide +kernel
theorem d_M_out_7 : decode c_M_out 7 = .ok (.aload_n 0, 1) := by decide +kernel
theorem d_M_out_8 : decode c_M_out 8 = .ok (.getfield 191, 3) := by decide +kernel
theorem d_M_out_11 : decode c_M_out 11 = .ok (.iconst 1, 1) := by decide +kernel
theorem d_M_out_12 : decode c_M_out 12 = .ok (.isub, 1) := by decide +kernel
theorem d_M_out_13 : decode c_M_out 13 = .ok (.invokestatic 66, 3) := by decide +kernel
theorem d_M_out_16 : decode c_M_out 16 = .ok (.ifCond .eq 12, 3) := by decide +kernel
theorem d_M_out_19 : decode c_M_out 19 = .ok (.aload_n 0, 1) := by decide +kernel
theorem d_M_out_20 : decode c_M_out 20 = .ok (.getfield 16, 3) := by decide +kernel
theorem d_M_out_23 : decode c_M_out 23 = .ok (.iload_n 1, 1) := by decide +kernel
theorem d_M_out_24 : decode c_M_out 24 = .ok (.iaload, 1) := by decide +kernel
theorem d_M_out_25 : decode c_M_out 25 = .ok (.goto 8, 3) := by decide +kernel
theorem d_M_out_28 : decode c_M_out 28 = .ok (.aload_n 0, 1) := by decide +kernel
theorem d_M_out_29 : decode c_M_out 29 = .ok (.iconst 1, 1) := by decide +kernel
theorem d_M_out_30 : decode c_M_out 30 = .ok (.invokevirtual 62, 3) := by decide +kernel
theorem d_M_out_33 : decode c_M_out 33 = .ok (.ireturn, 1) := by decide +kernel
theorem d_M_again_0 : decode c_M_again 0 = .ok (.aload_n 0, 1) := by decide +kernel
theorem d_M_again_1 : decode c_M_again 1 = .ok (.iconst 0, 1) := by decide +kernel
theorem d_M_again_2 : decode c_M_again 2 = .ok (.putfield 55, 3) := by decide +kernel
theorem d_M_again_5 : decode c_M_again 5 = .ok (.aload_n 0, 1) := by decide +kernel
theorem d_M_again_6 : decode c_M_again 6 = .ok (.getfield 191, 3) := by decide +kernel
theorem d_M_again_9 : decode c_M_again 9 = .ok (.sipush 4096, 3) := by decide +kernel
theorem d_M_again_12 : decode c_M_again 12 = .ok (.if_icmp .le 9, 3) := by decide +kernel
theorem d_M_again_15 : decode c_M_again 15 = .ok (.aload_n 0, 1) := by decide +kernel
theorem d_M_again_16 : decode c_M_again 16 = .ok (.iconst 1, 1) := by decide +kernel
theorem d_M_again_17 : decode c_M_again 17 = .ok (.invokevirtual 62, 3) := by decide +kernel
theorem d_M_again_20 : decode c_M_again 20 = .ok (.ireturn, 1) := by decide +kernel
theorem d_M_again_21 : decode c_M_again 21 = .ok (.aload_n 0, 1) := by decide +kernel
theorem d_M_again_22 : decode c_M_again 22 = .ok (.aload_n 0, 1) := by decide +kernel
theorem d_M_again_23 : decode c_M_again 23 = .ok (.getfield 191, 3) := by decide +kernel
theorem d_M_again_26 : decode c_M_again 26 = .ok (.putfield 59, 3) := by decide +kernel
theorem d_M_again_29 : decode c_M_again 29 = .ok (.iconst 0, 1) := by decide +kernel
theorem d_M_again_30 : decode c_M_again 30 = .ok (.istore_n 1, 1) := by decide +kernel
theorem d_M_again_31 : decode c_M_again 31 = .ok (.iload_n 1, 1) := by decide +kernel
theorem d_M_again_32 : decode c_M_again 32 = .ok (.aload_n 0, 1) := by decide +kernel
theorem d_M_again_33 : decode c_M_again 33 = .ok (.getfield 191, 3) := by decide +kernel
theorem d_M_again_36 : decode c_M_again 36 = .ok (.if_icmp .ge 21, 3) := by decide +kernel
theorem d_M_again_39 : decode c_M_again 39 = .ok (.aload_n 0, 1) := by decide +kernel
theorem d_M_again_40 : decode c_M_again 40 = .ok (.getfield 13, 3) := by decide +kernel
theorem d_M_again_43 : decode c_M_again 43 = .ok (.iload_n 1, 1) := by decide +kernel
theorem d_M_again_44 : decode c_M_again 44 = .ok (.aload_n 0, 1) := by decide +kernel
theorem d_M_again_45 : decode c_M_again 45 = .ok (.getfield 16, 3) := by decide +kernel
theorem d_M_again_48 : decode c_M_again 48 = .ok (.iload_n 1, 1) := by decide +kernel
theorem d_M_again_49 : decode c_M_again 49 = .ok (.iaload, 1) := by decide +kernel
theorem d_M_again_50 : decode c_M_again 50 = .ok (.iastore, 1) := by decide +kernel
theorem d_M_again_51 : decode c_M_again 51 = .ok (.iinc 1 1, 3) := by decide +kernel
theorem d_M_again_54 : decode c_M_again 54 = .ok (.goto (-23), 3) := by decide +kernel
theorem d_M_again_57 : decode c_M_again 57 = .ok (.aload_n 0, 1) := by decide +kernel
theorem d_M_again_58 : decode c_M_again 58 = .ok (.getfield 59, 3) := by decide +kernel
theorem d_M_again_61 : decode c_M_again 61 = .ok (.ireturn, 1) := by decide +kernel
theorem d_M_count_0 : decode c_M_count 0 = .ok (.aload_n 0, 1) := by decide +kernel
theorem d_M_count_1 : decode c_M_count 1 = .ok (.iconst 0, 1) := by decide +kernel
theorem d_M_count_2 : decode c_M_count 2 = .ok (.putfield 55, 3) := by decide +kernel
theorem d_M_count_5 : decode c_M_count 5 = .ok (.iconst 0, 1) := by decide +kernel
theorem d_M_count_6 : decode c_M_count 6 = .ok (.istore_n 2, 1) := by decide +kernel
theorem d_M_count_7 : decode c_M_count 7 = .ok (.iload_n 1, 1) := by decide +kernel
theorem d_M_count_8 : decode c_M_count 8 = .ok (.tableswitch 188 0 9 #[56, 61, 68, 75, 82, 87, 92, 120, 165, 183], 56) := by decide +kernel
theorem d_M_count_64 : decode c_M_count 64 = .ok (.aload_n 0, 1) := by decide +kernel
theorem d_M_count_65 : decode c_M_count 65 = .ok (.getfield 59, 3) := by decide +kernel
theorem d_M_count_68 : decode c_M_count 68 = .ok (.ireturn, 1) := by decide +kernel
theorem d_M_count_69 : decode c_M_count 69 = .ok (.aload_n 0, 1) := by decide +kernel
theorem d_M_count_70 : decode c_M_count 70 = .ok (.getfield 34, 3) := by decide +kernel
theorem d_M_count_73 : decode c_M_count 73 = .ok (.iconst 0, 1) := by decide +kernel
theorem d_M_count_74 : decode c_M_count 74 = .ok (.iaload, 1) := by decide +kernel
theorem d_M_count_75 : decode c_M_count 75 = .ok (.ireturn, 1) := by decide +kernel
theorem d_M_count_76 : decode c_M_count 76 = .ok (.aload_n 0, 1) := by decide +kernel
theorem d_M_count_77 : decode c_M_count 77 = .ok (.getfield 34, 3) := by decide +kernel
theorem d_M_count_80 : decode c_M_count 80 = .ok (.iconst 1, 1) := by decide +kernel
theorem d_M_count_81 : decode c_M_count 81 = .ok (.iaload, 1) := by decide +kernel
theorem d_M_count_82 : decode c_M_count 82 = .ok (.ireturn, 1) := by decide +kernel
theorem d_M_count_83 : decode c_M_count 83 = .ok (.aload_n 0, 1) := by decide +kernel
theorem d_M_count_84 : decode c_M_count 84 = .ok (.getfield 34, 3) := by decide +kernel
theorem d_M_count_87 : decode c_M_count 87 = .ok (.iconst 2, 1) := by decide +kernel
theorem d_M_count_88 : decode c_M_count 88 = .ok (.iaload, 1) := by decide +kernel
theorem d_M_count_89 : decode c_M_count 89 = .ok (.ireturn, 1) := by decide +kernel
theorem d_M_count_90 : decode c_M_count 90 = .ok (.aload_n 0, 1) := by decide +kernel
theorem d_M_count_91 : decode c_M_count 91 = .ok (.getfield 151, 3) := by decide +kernel
theorem d_M_count_94 : decode c_M_count 94 = .ok (.ireturn, 1) := by decide +kernel
theorem d_M_count_95 : decode c_M_count 95 = .ok (.aload_n 0, 1) := by decide +kernel
theorem d_M_count_96 : decode c_M_count 96 = .ok (.getfield 154, 3) := by decide +kernel
theorem d_M_count_99 : decode c_M_count 99 = .ok (.ireturn, 1) := by decide +kernel
theorem d_M_count_100 : decode c_M_count 100 = .ok (.iconst 0, 1) := by decide +kernel
theorem d_M_count_101 : decode c_M_count 101 = .ok (.istore_n 3, 1) := by decide +kernel
theorem d_M_count_102 : decode c_M_count 102 = .ok (.iload_n 3, 1) := by decide +kernel
theorem d_M_count_103 : decode c_M_count 103 = .ok (.aload_n 0, 1) := by decide +kernel
theorem d_M_count_104 : decode c_M_count 104 = .ok (.getfield 34, 3) := by decide +kernel
theorem d_M_count_107 : decode c_M_count 107 = .ok (.iconst 0, 1) := by decide +kernel
theorem d_M_count_108 : decode c_M_count 108 = .ok (.iaload, 1) := by decide +kernel
theorem d_M_count_109 : decode c_M_count 109 = .ok (.if_icmp .ge 17, 3) := by decide +kernel
theorem d_M_count_112 : decode c_M_count 112 = .ok (.iload_n 2, 1) := by decide +kernel
theorem d_M_count_113 : decode c_M_count 113 = .ok (.aload_n 0, 1) := by decide +kernel
theorem d_M_count_114 : decode c_M_count 114 = .ok (.iload_n 3, 1) := by decide +kernel
theorem d_M_count_115 : decode c_M_count 115 = .ok (.invokevirtual 233, 3) := by decide +kernel
theorem d_M_count_118 : decode c_M_count 118 = .ok (.iadd, 1) := by decide +kernel
theorem d_M_count_119 : decode c_M_count 119 = .ok (.istore_n 2, 1) := by decide +kernel
theorem d_M_count_120 : decode c_M_count 120 = .ok (.iinc 3 1, 3) := by decide +kernel
theorem d_M_count_123 : decode c_M_count 123 = .ok (.goto (-21), 3) := by decide +kernel
theorem d_M_count_126 : decode c_M_count 126 = .ok (.iload_n 2, 1) := by decide +kernel
theorem d_M_count_127 : decode c_M_count 127 = .ok (.ireturn, 1) := by decide +kernel
theorem d_M_count_128 : decode c_M_count 128 = .ok (.aload_n 0, 1) := by decide +kernel
theorem d_M_count_129 : decode c_M_count 129 = .ok (.invokevirtual 185, 3) := by decide +kernel
theorem d_M_count_132 : decode c_M_count 132 = .ok (.iconst 0, 1) := by decide +kernel
theorem d_M_count_133 : decode c_M_count 133 = .ok (.istore_n 3, 1) := by decide +kernel
theorem d_M_count_134 : decode c_M_count 134 = .ok (.iload_n 3, 1) := by decide +kernel
theorem d_M_count_135 : decode c_M_count 135 = .ok (.aload_n 0, 1) := by decide +kernel
theorem d_M_count_136 : decode c_M_count 136 = .ok (.getfield 34, 3) := by decide +kernel
theorem d_M_count_139 : decode c_M_count 139 = .ok (.iconst 0, 1) := by decide +kernel
theorem d_M_count_140 : decode c_M_count 140 = .ok (.iaload, 1) := by decide +kernel
theorem d_M_count_141 : decode c_M_count 141 = .ok (.if_icmp .ge 30, 3) := by decide +kernel
theorem d_M_count_144 : decode c_M_count 144 = .ok (.iload_n 2, 1) := by decide +kernel
theorem d_M_count_145 : decode c_M_count 145 = .ok (.aload_n 0, 1) := by decide +kernel
theorem d_M_count_146 : decode c_M_count 146 = .ok (.getfield 46, 3) := by decide +kernel
theorem d_M_count_149 : decode c_M_count 149 = .ok (.iload_n 3, 1) := by decide +kernel
theorem d_M_count_150 : decode c_M_count 150 = .ok (.iaload, 1) := by decide +kernel
theorem d_M_count_151 : decode c_M_count 151 = .ok (.ifCond .lt 11, 3) := by decide +kernel
theorem d_M_count_154 : decode c_M_count 154 = .ok (.aload_n 0, 1) := by decide +kernel
theorem d_M_count_155 : decode c_M_count 155 = .ok (.iload_n 3, 1) := by decide +kernel
theorem d_M_count_156 : decode c_M_count 156 = .ok (.invokevirtual 233, 3) := by decide +kernel
theorem d_M_count_159 : decode c_M_count 159 = .ok (.goto 4, 3) := by decide +kernel
theorem d_M_count_162 : decode c_M_count 162 = .ok (.iconst 0, 1) := by decide +kernel
theorem d_M_count_163 : decode c_M_count 163 = .ok (.iadd, 1) := by decide +kernel
theorem d_M_count_164 : decode c_M_count 164 = .ok (.istore_n 2, 1) := by decide +kernel
theorem d_M_count_165 : decode c_M_count 165 = .ok (.iinc 3 1, 3) := by decide +kernel
theorem d_M_count_168 : decode c_M_count 168 = .ok (.goto (-34), 3) := by decide +kernel
theorem d_M_count_171 : decode c_M_count 171 = .ok (.iload_n 2, 1) := by decide +kernel
theorem d_M_count_172 : decode c_M_count 172 = .ok (.ireturn, 1) := by decide +kernel
theorem d_M_count_173 : decode c_M_count 173 = .ok (.aload_n 0, 1) := by decide +kernel
theorem d_M_count_174 : decode c_M_count 174 = .ok (.getfield 34, 3) := by decide +kernel
theorem d_M_count_177 : decode c_M_count 177 = .ok (.iconst 0, 1) := by decide +kernel
theorem d_M_count_178 : decode c_M_count 178 = .ok (.iaload, 1) := by decide +kernel
theorem d_M_count_179 : decode c_M_count 179 = .ok (.ifCond .le 10, 3) := by decide +kernel
theorem d_M_count_182 : decode c_M_count 182 = .ok (.aload_n 0, 1) := by decide +kernel
theorem d_M_count_183 : decode c_M_count 183 = .ok (.getfield 166, 3) := by decide +kernel
theorem d_M_count_186 : decode c_M_count 186 = .ok (.goto 4, 3) := by decide +kernel
theorem d_M_count_189 : decode c_M_count 189 = .ok (.iconst (-1), 1) := by decide +kernel
theorem d_M_count_190 : decode c_M_count 190 = .ok (.ireturn, 1) := by decide +kernel
theorem d_M_count_191 : decode c_M_count 191 = .ok (.aload_n 0, 1) := by decide +kernel
theorem d_M_count_192 : decode c_M_count 192 = .ok (.getfield 191, 3) := by decide +kernel
theorem d_M_count_195 : decode c_M_count 195 = .ok (.ireturn, 1) := by decide +kernel
theorem d_M_count_196 : decode c_M_count 196 = .ok (.iconst (-1), 1) := by decide +kernel
theorem d_M_count_197 : decode c_M_count 197 = .ok (.ireturn, 1) := by decide +kernel
theorem d_M_missingOf_0 : decode c_M_missingOf 0 = .ok (.iconst 0, 1) := by decide +kernel
theorem d_M_missingOf_1 : decode c_M_missingOf 1 = .ok (.istore_n 2, 1) := by decide +kernel
theorem d_M_missingOf_2 : decode c_M_missingOf 2 = .ok (.iconst 0, 1) := by decide +kernel
theorem d_M_missingOf_3 : decode c_M_missingOf 3 = .ok (.istore_n 3, 1) := by decide +kernel
theorem d_M_missingOf_4 : decode c_M_missingOf 4 = .ok (.iload_n 3, 1) := by decide +kernel
theorem d_M_missingOf_5 : decode c_M_missingOf 5 = .ok (.aload_n 0, 1) := by decide +kernel
theorem d_M_missingOf_6 : decode c_M_missingOf 6 = .ok (.invokevirtual 172, 3) := by decide +kernel
theorem d_M_missingOf_9 : decode c_M_missingOf 9 = .ok (.if_icmp .ge 32, 3) := by decide +kernel
theorem d_M_missingOf_12 : decode c_M_missingOf 12 = .ok (.iload_n 2, 1) := by decide +kernel
theorem d_M_missingOf_13 : decode c_M_missingOf 13 = .ok (.aload_n 0, 1) := by decide +kernel
theorem d_M_missingOf_14 : decode c_M_missingOf 14 = .ok (.getfield 40, 3) := by decide +kernel
theorem d_M_missingOf_17 : decode c_M_missingOf 17 = .ok (.aload_n 0, 1) := by decide +kernel
theorem d_M_missingOf_18 : decode c_M_missingOf 18 = .ok (.iload_n 1, 1) := by decide +kernel
theorem d_M_missingOf_19 : decode c_M_missingOf 19 = .ok (.iload_n 3, 1) := by decide +kernel
theorem d_M_missingOf_20 : decode c_M_missingOf 20 = .ok (.invokevirtual 182, 3) := by decide +kernel
theorem d_M_missingOf_23 : decode c_M_missingOf 23 = .ok (.iaload, 1) := by decide +kernel
theorem d_M_missingOf_24 : decode c_M_missingOf 24 = .ok (.iconst (-1), 1) := by decide +kernel
theorem d_M_missingOf_25 : decode c_M_missingOf 25 = .ok (.if_icmp .ne 7, 3) := by decide +kernel
theorem d_M_missingOf_28 : decode c_M_missingOf 28 = .ok (.iconst 1, 1) := by decide +kernel
theorem d_M_missingOf_29 : decode c_M_missingOf 29 = .ok (.goto 4, 3) := by decide +kernel
theorem d_M_missingOf_32 : decode c_M_missingOf 32 = .ok (.iconst 0, 1) := by decide +kernel
theorem d_M_missingOf_33 : decode c_M_missingOf 33 = .ok (.iadd, 1) := by decide +kernel
theorem d_M_missingOf_34 : decode c_M_missingOf 34 = .ok (.istore_n 2, 1) := by decide +kernel
theorem d_M_missingOf_35 : decode c_M_missingOf 35 = .ok (.iinc 3 1, 3) := by decide +kernel
theorem d_M_missingOf_38 : decode c_M_missingOf 38 = .ok (.goto (-34), 3) := by decide +kernel
theorem d_M_missingOf_41 : decode c_M_missingOf 41 = .ok (.iload_n 2, 1) := by decide +kernel
theorem d_M_missingOf_42 : decode c_M_missingOf 42 = .ok (.ireturn, 1) := by decide +kernel

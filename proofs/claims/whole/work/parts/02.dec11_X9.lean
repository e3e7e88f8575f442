theorem dX9_init_0 : decode cX9_init 0 = .ok (.aload_n 0, 1) := by decide +kernel
theorem dX9_init_1 : decode cX9_init 1 = .ok (.invokespecial 1, 3) := by decide +kernel
theorem dX9_init_4 : decode cX9_init 4 = .ok (.aload_n 0, 1) := by decide +kernel
theorem dX9_init_5 : decode cX9_init 5 = .ok (.sipush 470, 3) := by decide +kernel
theorem dX9_init_8 : decode cX9_init 8 = .ok (.newarray .int, 2) := by decide +kernel
theorem dX9_init_10 : decode cX9_init 10 = .ok (.putfield 7, 3) := by decide +kernel
theorem dX9_init_13 : decode cX9_init 13 = .ok (.aload_n 0, 1) := by decide +kernel
theorem dX9_init_14 : decode cX9_init 14 = .ok (.bipush 94, 2) := by decide +kernel
theorem dX9_init_16 : decode cX9_init 16 = .ok (.newarray .int, 2) := by decide +kernel
theorem dX9_init_18 : decode cX9_init 18 = .ok (.putfield 13, 3) := by decide +kernel
theorem dX9_init_21 : decode cX9_init 21 = .ok (.aload_n 0, 1) := by decide +kernel
theorem dX9_init_22 : decode cX9_init 22 = .ok (.sipush 400, 3) := by decide +kernel
theorem dX9_init_25 : decode cX9_init 25 = .ok (.newarray .int, 2) := by decide +kernel
theorem dX9_init_27 : decode cX9_init 27 = .ok (.putfield 16, 3) := by decide +kernel
theorem dX9_init_30 : decode cX9_init 30 = .ok (.aload_n 0, 1) := by decide +kernel
theorem dX9_init_31 : decode cX9_init 31 = .ok (.bipush 10, 2) := by decide +kernel
theorem dX9_init_33 : decode cX9_init 33 = .ok (.newarray .int, 2) := by decide +kernel
theorem dX9_init_35 : decode cX9_init 35 = .ok (.dup, 1) := by decide +kernel
theorem dX9_init_36 : decode cX9_init 36 = .ok (.iconst 0, 1) := by decide +kernel
theorem dX9_init_37 : decode cX9_init 37 = .ok (.iconst 0, 1) := by decide +kernel
theorem dX9_init_38 : decode cX9_init 38 = .ok (.iastore, 1) := by decide +kernel
theorem dX9_init_39 : decode cX9_init 39 = .ok (.dup, 1) := by decide +kernel
theorem dX9_init_40 : decode cX9_init 40 = .ok (.iconst 1, 1) := by decide +kernel
theorem dX9_init_41 : decode cX9_init 41 = .ok (.iconst 3, 1) := by decide +kernel
theorem dX9_init_42 : decode cX9_init 42 = .ok (.iastore, 1) := by decide +kernel
theorem dX9_init_43 : decode cX9_init 43 = .ok (.dup, 1) := by decide +kernel
theorem dX9_init_44 : decode cX9_init 44 = .ok (.iconst 2, 1) := by decide +kernel
theorem dX9_init_45 : decode cX9_init 45 = .ok (.bipush 11, 2) := by decide +kernel
theorem dX9_init_47 : decode cX9_init 47 = .ok (.iastore, 1) := by decide +kernel
theorem dX9_init_48 : decode cX9_init 48 = .ok (.dup, 1) := by decide +kernel
theorem dX9_init_49 : decode cX9_init 49 = .ok (.iconst 3, 1) := by decide +kernel
theorem dX9_init_50 : decode cX9_init 50 = .ok (.bipush 14, 2) := by decide +kernel
theorem dX9_init_52 : decode cX9_init 52 = .ok (.iastore, 1) := by decide +kernel
theorem dX9_init_53 : decode cX9_init 53 = .ok (.dup, 1) := by decide +kernel
theorem dX9_init_54 : decode cX9_init 54 = .ok (.iconst 4, 1) := by decide +kernel
theorem dX9_init_55 : decode cX9_init 55 = .ok (.bipush 18, 2) := by decide +kernel
theorem dX9_init_57 : decode cX9_init 57 = .ok (.iastore, 1) := by decide +kernel
theorem dX9_init_58 : decode cX9_init 58 = .ok (.dup, 1) := by decide +kernel
theorem dX9_init_59 : decode cX9_init 59 = .ok (.iconst 5, 1) := by decide +kernel
theorem dX9_init_60 : decode cX9_init 60 = .ok (.bipush 23, 2) := by decide +kernel
theorem dX9_init_62 : decode cX9_init 62 = .ok (.iastore, 1) := by decide +kernel
theorem dX9_init_63 : decode cX9_init 63 = .ok (.dup, 1) := by decide +kernel
theorem dX9_init_64 : decode cX9_init 64 = .ok (.bipush 6, 2) := by decide +kernel
theorem dX9_init_66 : decode cX9_init 66 = .ok (.bipush 28, 2) := by decide +kernel
theorem dX9_init_68 : decode cX9_init 68 = .ok (.iastore, 1) := by decide +kernel
theorem dX9_init_69 : decode cX9_init 69 = .ok (.dup, 1) := by decide +kernel
theorem dX9_init_70 : decode cX9_init 70 = .ok (.bipush 7, 2) := by decide +kernel
theorem dX9_init_72 : decode cX9_init 72 = .ok (.bipush 33, 2) := by decide +kernel
theorem dX9_init_74 : decode cX9_init 74 = .ok (.iastore, 1) := by decide +kernel
theorem dX9_init_75 : decode cX9_init 75 = .ok (.dup, 1) := by decide +kernel
theorem dX9_init_76 : decode cX9_init 76 = .ok (.bipush 8, 2) := by decide +kernel
theorem dX9_init_78 : decode cX9_init 78 = .ok (.bipush 37, 2) := by decide +kernel
theorem dX9_init_80 : decode cX9_init 80 = .ok (.iastore, 1) := by decide +kernel
theorem dX9_init_81 : decode cX9_init 81 = .ok (.dup, 1) := by decide +kernel
theorem dX9_init_82 : decode cX9_init 82 = .ok (.bipush 9, 2) := by decide +kernel
theorem dX9_init_84 : decode cX9_init 84 = .ok (.bipush 40, 2) := by decide +kernel
theorem dX9_init_86 : decode cX9_init 86 = .ok (.iastore, 1) := by decide +kernel
theorem dX9_init_87 : decode cX9_init 87 = .ok (.putfield 19, 3) := by decide +kernel
theorem dX9_init_90 : decode cX9_init 90 = .ok (.aload_n 0, 1) := by decide +kernel
theorem dX9_init_91 : decode cX9_init 91 = .ok (.bipush 40, 2) := by decide +kernel
theorem dX9_init_93 : decode cX9_init 93 = .ok (.newarray .int, 2) := by decide +kernel
theorem dX9_init_95 : decode cX9_init 95 = .ok (.dup, 1) := by decide +kernel
theorem dX9_init_96 : decode cX9_init 96 = .ok (.iconst 0, 1) := by decide +kernel
theorem dX9_init_97 : decode cX9_init 97 = .ok (.bipush 108, 2) := by decide +kernel
theorem dX9_init_99 : decode cX9_init 99 = .ok (.iastore, 1) := by decide +kernel
theorem dX9_init_100 : decode cX9_init 100 = .ok (.dup, 1) := by decide +kernel
theorem dX9_init_101 : decode cX9_init 101 = .ok (.iconst 1, 1) := by decide +kernel
theorem dX9_init_102 : decode cX9_init 102 = .ok (.bipush 97, 2) := by decide +kernel
theorem dX9_init_104 : decode cX9_init 104 = .ok (.iastore, 1) := by decide +kernel
theorem dX9_init_105 : decode cX9_init 105 = .ok (.dup, 1) := by decide +kernel
theorem dX9_init_106 : decode cX9_init 106 = .ok (.iconst 2, 1) := by decide +kernel
theorem dX9_init_107 : decode cX9_init 107 = .ok (.bipush 119, 2) := by decide +kernel
theorem dX9_init_109 : decode cX9_init 109 = .ok (.iastore, 1) := by decide +kernel
theorem dX9_init_110 : decode cX9_init 110 = .ok (.dup, 1) := by decide +kernel
theorem dX9_init_111 : decode cX9_init 111 = .ok (.iconst 3, 1) := by decide +kernel
theorem dX9_init_112 : decode cX9_init 112 = .ok (.bipush 99, 2) := by decide +kernel
theorem dX9_init_114 : decode cX9_init 114 = .ok (.iastore, 1) := by decide +kernel
theorem dX9_init_115 : decode cX9_init 115 = .ok (.dup, 1) := by decide +kernel
theorem dX9_init_116 : decode cX9_init 116 = .ok (.iconst 4, 1) := by decide +kernel
theorem dX9_init_117 : decode cX9_init 117 = .ok (.bipush 111, 2) := by decide +kernel
theorem dX9_init_119 : decode cX9_init 119 = .ok (.iastore, 1) := by decide +kernel
theorem dX9_init_120 : decode cX9_init 120 = .ok (.dup, 1) := by decide +kernel
theorem dX9_init_121 : decode cX9_init 121 = .ok (.iconst 5, 1) := by decide +kernel
theorem dX9_init_122 : decode cX9_init 122 = .ok (.bipush 117, 2) := by decide +kernel
theorem dX9_init_124 : decode cX9_init 124 = .ok (.iastore, 1) := by decide +kernel
theorem dX9_init_125 : decode cX9_init 125 = .ok (.dup, 1) := by decide +kernel
theorem dX9_init_126 : decode cX9_init 126 = .ok (.bipush 6, 2) := by decide +kernel
theorem dX9_init_128 : decode cX9_init 128 = .ok (.bipush 110, 2) := by decide +kernel
theorem dX9_init_130 : decode cX9_init 130 = .ok (.iastore, 1) := by decide +kernel
theorem dX9_init_131 : decode cX9_init 131 = .ok (.dup, 1) := by decide +kernel
theorem dX9_init_132 : decode cX9_init 132 = .ok (.bipush 7, 2) := by decide +kernel
theorem dX9_init_134 : decode cX9_init 134 = .ok (.bipush 116, 2) := by decide +kernel
theorem dX9_init_136 : decode cX9_init 136 = .ok (.iastore, 1) := by decide +kernel
theorem dX9_init_137 : decode cX9_init 137 = .ok (.dup, 1) := by decide +kernel
theorem dX9_init_138 : decode cX9_init 138 = .ok (.bipush 8, 2) := by decide +kernel
theorem dX9_init_140 : decode cX9_init 140 = .ok (.bipush 101, 2) := by decide +kernel
theorem dX9_init_142 : decode cX9_init 142 = .ok (.iastore, 1) := by decide +kernel
theorem dX9_init_143 : decode cX9_init 143 = .ok (.dup, 1) := by decide +kernel
theorem dX9_init_144 : decode cX9_init 144 = .ok (.bipush 9, 2) := by decide +kernel
theorem dX9_init_146 : decode cX9_init 146 = .ok (.bipush 114, 2) := by decide +kernel
theorem dX9_init_148 : decode cX9_init 148 = .ok (.iastore, 1) := by decide +kernel
theorem dX9_init_149 : decode cX9_init 149 = .ok (.dup, 1) := by decide +kernel
theorem dX9_init_150 : decode cX9_init 150 = .ok (.bipush 10, 2) := by decide +kernel
theorem dX9_init_152 : decode cX9_init 152 = .ok (.bipush 115, 2) := by decide +kernel
theorem dX9_init_154 : decode cX9_init 154 = .ok (.iastore, 1) := by decide +kernel
theorem dX9_init_155 : decode cX9_init 155 = .ok (.dup, 1) := by decide +kernel
theorem dX9_init_156 : decode cX9_init 156 = .ok (.bipush 11, 2) := by decide +kernel
theorem dX9_init_158 : decode cX9_init 158 = .ok (.bipush 111, 2) := by decide +kernel
theorem dX9_init_160 : decode cX9_init 160 = .ok (.iastore, 1) := by decide +kernel
theorem dX9_init_161 : decode cX9_init 161 = .ok (.dup, 1) := by decide +kernel
theorem dX9_init_162 : decode cX9_init 162 = .ok (.bipush 12, 2) := by decide +kernel
theorem dX9_init_164 : decode cX9_init 164 = .ok (.bipush 110, 2) := by decide +kernel
theorem dX9_init_166 : decode cX9_init 166 = .ok (.iastore, 1) := by decide +kernel
theorem dX9_init_167 : decode cX9_init 167 = .ok (.dup, 1) := by decide +kernel
theorem dX9_init_168 : decode cX9_init 168 = .ok (.bipush 13, 2) := by decide +kernel
theorem dX9_init_170 : decode cX9_init 170 = .ok (.bipush 101, 2) := by decide +kernel
theorem dX9_init_172 : decode cX9_init 172 = .ok (.iastore, 1) := by decide +kernel
theorem dX9_init_173 : decode cX9_init 173 = .ok (.dup, 1) := by decide +kernel
theorem dX9_init_174 : decode cX9_init 174 = .ok (.bipush 14, 2) := by decide +kernel
theorem dX9_init_176 : decode cX9_init 176 = .ok (.bipush 100, 2) := by decide +kernel
theorem dX9_init_178 : decode cX9_init 178 = .ok (.iastore, 1) := by decide +kernel
theorem dX9_init_179 : decode cX9_init 179 = .ok (.dup, 1) := by decide +kernel
theorem dX9_init_180 : decode cX9_init 180 = .ok (.bipush 15, 2) := by decide +kernel
theorem dX9_init_182 : decode cX9_init 182 = .ok (.bipush 101, 2) := by decide +kernel
theorem dX9_init_184 : decode cX9_init 184 = .ok (.iastore, 1) := by decide +kernel
theorem dX9_init_185 : decode cX9_init 185 = .ok (.dup, 1) := by decide +kernel
theorem dX9_init_186 : decode cX9_init 186 = .ok (.bipush 16, 2) := by decide +kernel
theorem dX9_init_188 : decode cX9_init 188 = .ok (.bipush 98, 2) := by decide +kernel
theorem dX9_init_190 : decode cX9_init 190 = .ok (.iastore, 1) := by decide +kernel
theorem dX9_init_191 : decode cX9_init 191 = .ok (.dup, 1) := by decide +kernel
theorem dX9_init_192 : decode cX9_init 192 = .ok (.bipush 17, 2) := by decide +kernel
theorem dX9_init_194 : decode cX9_init 194 = .ok (.bipush 116, 2) := by decide +kernel
theorem dX9_init_196 : decode cX9_init 196 = .ok (.iastore, 1) := by decide +kernel
theorem dX9_init_197 : decode cX9_init 197 = .ok (.dup, 1) := by decide +kernel
theorem dX9_init_198 : decode cX9_init 198 = .ok (.bipush 18, 2) := by decide +kernel
theorem dX9_init_200 : decode cX9_init 200 = .ok (.bipush 112, 2) := by decide +kernel
theorem dX9_init_202 : decode cX9_init 202 = .ok (.iastore, 1) := by decide +kernel
theorem dX9_init_203 : decode cX9_init 203 = .ok (.dup, 1) := by decide +kernel
theorem dX9_init_204 : decode cX9_init 204 = .ok (.bipush 19, 2) := by decide +kernel
theorem dX9_init_206 : decode cX9_init 206 = .ok (.bipush 108, 2) := by decide +kernel
theorem dX9_init_208 : decode cX9_init 208 = .ok (.iastore, 1) := by decide +kernel
theorem dX9_init_209 : decode cX9_init 209 = .ok (.dup, 1) := by decide +kernel
theorem dX9_init_210 : decode cX9_init 210 = .ok (.bipush 20, 2) := by decide +kernel
theorem dX9_init_212 : decode cX9_init 212 = .ok (.bipush 97, 2) := by decide +kernel
theorem dX9_init_214 : decode cX9_init 214 = .ok (.iastore, 1) := by decide +kernel
theorem dX9_init_215 : decode cX9_init 215 = .ok (.dup, 1) := by decide +kernel
theorem dX9_init_216 : decode cX9_init 216 = .ok (.bipush 21, 2) := by decide +kernel
theorem dX9_init_218 : decode cX9_init 218 = .ok (.bipush 105, 2) := by decide +kernel
theorem dX9_init_220 : decode cX9_init 220 = .ok (.iastore, 1) := by decide +kernel
theorem dX9_init_221 : decode cX9_init 221 = .ok (.dup, 1) := by decide +kernel
theorem dX9_init_222 : decode cX9_init 222 = .ok (.bipush 22, 2) := by decide +kernel
theorem dX9_init_224 : decode cX9_init 224 = .ok (.bipush 110, 2) := by decide +kernel
theorem dX9_init_226 : decode cX9_init 226 = .ok (.iastore, 1) := by decide +kernel
theorem dX9_init_227 : decode cX9_init 227 = .ok (.dup, 1) := by decide +kernel
theorem dX9_init_228 : decode cX9_init 228 = .ok (.bipush 23, 2) := by decide +kernel
theorem dX9_init_230 : decode cX9_init 230 = .ok (.bipush 112, 2) := by decide +kernel
theorem dX9_init_232 : decode cX9_init 232 = .ok (.iastore, 1) := by decide +kernel
theorem dX9_init_233 : decode cX9_init 233 = .ok (.dup, 1) := by decide +kernel
theorem dX9_init_234 : decode cX9_init 234 = .ok (.bipush 24, 2) := by decide +kernel
theorem dX9_init_236 : decode cX9_init 236 = .ok (.bipush 97, 2) := by decide +kernel
theorem dX9_init_238 : decode cX9_init 238 = .ok (.iastore, 1) := by decide +kernel
theorem dX9_init_239 : decode cX9_init 239 = .ok (.dup, 1) := by decide +kernel
theorem dX9_init_240 : decode cX9_init 240 = .ok (.bipush 25, 2) := by decide +kernel
theorem dX9_init_242 : decode cX9_init 242 = .ok (.bipush 121, 2) := by decide +kernel
theorem dX9_init_244 : decode cX9_init 244 = .ok (.iastore, 1) := by decide +kernel
theorem dX9_init_245 : decode cX9_init 245 = .ok (.dup, 1) := by decide +kernel
theorem dX9_init_246 : decode cX9_init 246 = .ok (.bipush 26, 2) := by decide +kernel
theorem dX9_init_248 : decode cX9_init 248 = .ok (.bipush 101, 2) := by decide +kernel
theorem dX9_init_250 : decode cX9_init 250 = .ok (.iastore, 1) := by decide +kernel
theorem dX9_init_251 : decode cX9_init 251 = .ok (.dup, 1) := by decide +kernel
theorem dX9_init_252 : decode cX9_init 252 = .ok (.bipush 27, 2) := by decide +kernel
theorem dX9_init_254 : decode cX9_init 254 = .ok (.bipush 114, 2) := by decide +kernel
theorem dX9_init_256 : decode cX9_init 256 = .ok (.iastore, 1) := by decide +kernel
theorem dX9_init_257 : decode cX9_init 257 = .ok (.dup, 1) := by decide +kernel
theorem dX9_init_258 : decode cX9_init 258 = .ok (.bipush 28, 2) := by decide +kernel
theorem dX9_init_260 : decode cX9_init 260 = .ok (.bipush 112, 2) := by decide +kernel
theorem dX9_init_262 : decode cX9_init 262 = .ok (.iastore, 1) := by decide +kernel
theorem dX9_init_263 : decode cX9_init 263 = .ok (.dup, 1) := by decide +kernel
theorem dX9_init_264 : decode cX9_init 264 = .ok (.bipush 29, 2) := by decide +kernel
theorem dX9_init_266 : decode cX9_init 266 = .ok (.bipush 114, 2) := by decide +kernel
theorem dX9_init_268 : decode cX9_init 268 = .ok (.iastore, 1) := by decide +kernel
theorem dX9_init_269 : decode cX9_init 269 = .ok (.dup, 1) := by decide +kernel
theorem dX9_init_270 : decode cX9_init 270 = .ok (.bipush 30, 2) := by decide +kernel
theorem dX9_init_272 : decode cX9_init 272 = .ok (.bipush 111, 2) := by decide +kernel
theorem dX9_init_274 : decode cX9_init 274 = .ok (.iastore, 1) := by decide +kernel
theorem dX9_init_275 : decode cX9_init 275 = .ok (.dup, 1) := by decide +kernel
theorem dX9_init_276 : decode cX9_init 276 = .ok (.bipush 31, 2) := by decide +kernel
theorem dX9_init_278 : decode cX9_init 278 = .ok (.bipush 117, 2) := by decide +kernel
theorem dX9_init_280 : decode cX9_init 280 = .ok (.iastore, 1) := by decide +kernel
theorem dX9_init_281 : decode cX9_init 281 = .ok (.dup, 1) := by decide +kernel
theorem dX9_init_282 : decode cX9_init 282 = .ok (.bipush 32, 2) := by decide +kernel
theorem dX9_init_284 : decode cX9_init 284 = .ok (.bipush 100, 2) := by decide +kernel
theorem dX9_init_286 : decode cX9_init 286 = .ok (.iastore, 1) := by decide +kernel
theorem dX9_init_287 : decode cX9_init 287 = .ok (.dup, 1) := by decide +kernel
theorem dX9_init_288 : decode cX9_init 288 = .ok (.bipush 33, 2) := by decide +kernel
theorem dX9_init_290 : decode cX9_init 290 = .ok (.bipush 114, 2) := by decide +kernel
theorem dX9_init_292 : decode cX9_init 292 = .ok (.iastore, 1) := by decide +kernel
theorem dX9_init_293 : decode cX9_init 293 = .ok (.dup, 1) := by decide +kernel
theorem dX9_init_294 : decode cX9_init 294 = .ok (.bipush 34, 2) := by decide +kernel
theorem dX9_init_296 : decode cX9_init 296 = .ok (.bipush 105, 2) := by decide +kernel
theorem dX9_init_298 : decode cX9_init 298 = .ok (.iastore, 1) := by decide +kernel
theorem dX9_init_299 : decode cX9_init 299 = .ok (.dup, 1) := by decide +kernel
theorem dX9_init_300 : decode cX9_init 300 = .ok (.bipush 35, 2) := by decide +kernel
theorem dX9_init_302 : decode cX9_init 302 = .ok (.bipush 99, 2) := by decide +kernel
theorem dX9_init_304 : decode cX9_init 304 = .ok (.iastore, 1) := by decide +kernel
theorem dX9_init_305 : decode cX9_init 305 = .ok (.dup, 1) := by decide +kernel
theorem dX9_init_306 : decode cX9_init 306 = .ok (.bipush 36, 2) := by decide +kernel
theorem dX9_init_308 : decode cX9_init 308 = .ok (.bipush 104, 2) := by decide +kernel
theorem dX9_init_310 : decode cX9_init 310 = .ok (.iastore, 1) := by decide +kernel
theorem dX9_init_311 : decode cX9_init 311 = .ok (.dup, 1) := by decide +kernel
theorem dX9_init_312 : decode cX9_init 312 = .ok (.bipush 37, 2) := by decide +kernel
theorem dX9_init_314 : decode cX9_init 314 = .ok (.bipush 115, 2) := by decide +kernel
theorem dX9_init_316 : decode cX9_init 316 = .ok (.iastore, 1) := by decide +kernel
theorem dX9_init_317 : decode cX9_init 317 = .ok (.dup, 1) := by decide +kernel
theorem dX9_init_318 : decode cX9_init 318 = .ok (.bipush 38, 2) := by decide +kernel
theorem dX9_init_320 : decode cX9_init 320 = .ok (.bipush 111, 2) := by decide +kernel
theorem dX9_init_322 : decode cX9_init 322 = .ok (.iastore, 1) := by decide +kernel
theorem dX9_init_323 : decode cX9_init 323 = .ok (.dup, 1) := by decide +kernel
theorem dX9_init_324 : decode cX9_init 324 = .ok (.bipush 39, 2) := by decide +kernel
theorem dX9_init_326 : decode cX9_init 326 = .ok (.bipush 110, 2) := by decide +kernel
theorem dX9_init_328 : decode cX9_init 328 = .ok (.iastore, 1) := by decide +kernel
theorem dX9_init_329 : decode cX9_init 329 = .ok (.putfield 22, 3) := by decide +kernel
theorem dX9_init_332 : decode cX9_init 332 = .ok (.aload_n 0, 1) := by decide +kernel
theorem dX9_init_333 : decode cX9_init 333 = .ok (.bipush 7, 2) := by decide +kernel
theorem dX9_init_335 : decode cX9_init 335 = .ok (.newarray .int, 2) := by decide +kernel
theorem dX9_init_337 : decode cX9_init 337 = .ok (.putfield 25, 3) := by decide +kernel
theorem dX9_init_340 : decode cX9_init 340 = .ok (.aload_n 0, 1) := by decide +kernel
theorem dX9_init_341 : decode cX9_init 341 = .ok (.iconst 2, 1) := by decide +kernel
theorem dX9_init_342 : decode cX9_init 342 = .ok (.newarray .int, 2) := by decide +kernel
theorem dX9_init_344 : decode cX9_init 344 = .ok (.putfield 28, 3) := by decide +kernel
theorem dX9_init_347 : decode cX9_init 347 = .ok (.aload_n 0, 1) := by decide +kernel
theorem dX9_init_348 : decode cX9_init 348 = .ok (.bipush 7, 2) := by decide +kernel
theorem dX9_init_350 : decode cX9_init 350 = .ok (.newarray .int, 2) := by decide +kernel
theorem dX9_init_352 : decode cX9_init 352 = .ok (.putfield 31, 3) := by decide +kernel
theorem dX9_init_355 : decode cX9_init 355 = .ok (.aload_n 0, 1) := by decide +kernel
theorem dX9_init_356 : decode cX9_init 356 = .ok (.sipush 128, 3) := by decide +kernel
theorem dX9_init_359 : decode cX9_init 359 = .ok (.newarray .int, 2) := by decide +kernel
theorem dX9_init_361 : decode cX9_init 361 = .ok (.putfield 34, 3) := by decide +kernel
theorem dX9_init_364 : decode cX9_init 364 = .ok (.aload_n 0, 1) := by decide +kernel
theorem dX9_init_365 : decode cX9_init 365 = .ok (.sipush 128, 3) := by decide +kernel
theorem dX9_init_368 : decode cX9_init 368 = .ok (.newarray .int, 2) := by decide +kernel
theorem dX9_init_370 : decode cX9_init 370 = .ok (.putfield 37, 3) := by decide +kernel
theorem dX9_init_373 : decode cX9_init 373 = .ok (.aload_n 0, 1) := by decide +kernel
theorem dX9_init_374 : decode cX9_init 374 = .ok (.bipush 7, 2) := by decide +kernel
theorem dX9_init_376 : decode cX9_init 376 = .ok (.newarray .int, 2) := by decide +kernel
theorem dX9_init_378 : decode cX9_init 378 = .ok (.putfield 40, 3) := by decide +kernel
theorem dX9_init_381 : decode cX9_init 381 = .ok (.aload_n 0, 1) := by decide +kernel
theorem dX9_init_382 : decode cX9_init 382 = .ok (.bipush 7, 2) := by decide +kernel
theorem dX9_init_384 : decode cX9_init 384 = .ok (.newarray .int, 2) := by decide +kernel
theorem dX9_init_386 : decode cX9_init 386 = .ok (.putfield 43, 3) := by decide +kernel
theorem dX9_init_389 : decode cX9_init 389 = .ok (.aload_n 0, 1) := by decide +kernel
theorem dX9_init_390 : decode cX9_init 390 = .ok (.iconst 2, 1) := by decide +kernel
theorem dX9_init_391 : decode cX9_init 391 = .ok (.newarray .boolean, 2) := by decide +kernel
theorem dX9_init_393 : decode cX9_init 393 = .ok (.putfield 46, 3) := by decide +kernel
theorem dX9_init_396 : decode cX9_init 396 = .ok (.aload_n 0, 1) := by decide +kernel
theorem dX9_init_397 : decode cX9_init 397 = .ok (.iconst 4, 1) := by decide +kernel
theorem dX9_init_398 : decode cX9_init 398 = .ok (.newarray .int, 2) := by decide +kernel
theorem dX9_init_400 : decode cX9_init 400 = .ok (.dup, 1) := by decide +kernel
theorem dX9_init_401 : decode cX9_init 401 = .ok (.iconst 0, 1) := by decide +kernel
theorem dX9_init_402 : decode cX9_init 402 = .ok (.bipush (-4), 2) := by decide +kernel
theorem dX9_init_404 : decode cX9_init 404 = .ok (.iastore, 1) := by decide +kernel
theorem dX9_init_405 : decode cX9_init 405 = .ok (.dup, 1) := by decide +kernel
theorem dX9_init_406 : decode cX9_init 406 = .ok (.iconst 1, 1) := by decide +kernel
theorem dX9_init_407 : decode cX9_init 407 = .ok (.bipush (-4), 2) := by decide +kernel
theorem dX9_init_409 : decode cX9_init 409 = .ok (.iastore, 1) := by decide +kernel
theorem dX9_init_410 : decode cX9_init 410 = .ok (.dup, 1) := by decide +kernel
theorem dX9_init_411 : decode cX9_init 411 = .ok (.iconst 2, 1) := by decide +kernel
theorem dX9_init_412 : decode cX9_init 412 = .ok (.bipush (-4), 2) := by decide +kernel
theorem dX9_init_414 : decode cX9_init 414 = .ok (.iastore, 1) := by decide +kernel
theorem dX9_init_415 : decode cX9_init 415 = .ok (.dup, 1) := by decide +kernel
theorem dX9_init_416 : decode cX9_init 416 = .ok (.iconst 3, 1) := by decide +kernel
theorem dX9_init_417 : decode cX9_init 417 = .ok (.bipush (-4), 2) := by decide +kernel
theorem dX9_init_419 : decode cX9_init 419 = .ok (.iastore, 1) := by decide +kernel
theorem dX9_init_420 : decode cX9_init 420 = .ok (.putfield 50, 3) := by decide +kernel
theorem dX9_init_423 : decode cX9_init 423 = .ok (.aload_n 0, 1) := by decide +kernel
theorem dX9_init_424 : decode cX9_init 424 = .ok (.iconst 4, 1) := by decide +kernel
theorem dX9_init_425 : decode cX9_init 425 = .ok (.newarray .int, 2) := by decide +kernel
theorem dX9_init_427 : decode cX9_init 427 = .ok (.putfield 53, 3) := by decide +kernel
theorem dX9_init_430 : decode cX9_init 430 = .ok (.aload_n 0, 1) := by decide +kernel
theorem dX9_init_431 : decode cX9_init 431 = .ok (.sipush 160, 3) := by decide +kernel
theorem dX9_init_434 : decode cX9_init 434 = .ok (.newarray .int, 2) := by decide +kernel
theorem dX9_init_436 : decode cX9_init 436 = .ok (.putfield 56, 3) := by decide +kernel
theorem dX9_init_439 : decode cX9_init 439 = .ok (.return_, 1) := by decide +kernel
theorem dX9_in_0 : decode cX9_in 0 = .ok (.lload_n 0, 1) := by decide +kernel
theorem dX9_in_1 : decode cX9_in 1 = .ok (.lload_n 2, 1) := by decide +kernel
theorem dX9_in_2 : decode cX9_in 2 = .ok (.lcmp, 1) := by decide +kernel
theorem dX9_in_3 : decode cX9_in 3 = .ok (.ifCond .lt 14, 3) := by decide +kernel
theorem dX9_in_6 : decode cX9_in 6 = .ok (.lload_n 0, 1) := by decide +kernel
theorem dX9_in_7 : decode cX9_in 7 = .ok (.lload 4, 2) := by decide +kernel
theorem dX9_in_9 : decode cX9_in 9 = .ok (.lcmp, 1) := by decide +kernel
theorem dX9_in_10 : decode cX9_in 10 = .ok (.ifCond .gt 7, 3) := by decide +kernel
theorem dX9_in_13 : decode cX9_in 13 = .ok (.iconst 1, 1) := by decide +kernel
theorem dX9_in_14 : decode cX9_in 14 = .ok (.goto 4, 3) := by decide +kernel
theorem dX9_in_17 : decode cX9_in 17 = .ok (.iconst 0, 1) := by decide +kernel
theorem dX9_in_18 : decode cX9_in 18 = .ok (.ireturn, 1) := by decide +kernel
theorem dX9_feed_0 : decode cX9_feed 0 = .ok (.aload_n 0, 1) := by decide +kernel
theorem dX9_feed_1 : decode cX9_feed 1 = .ok (.getfield 59, 3) := by decide +kernel
theorem dX9_feed_4 : decode cX9_feed 4 = .ok (.bipush 8, 2) := by decide +kernel
theorem dX9_feed_6 : decode cX9_feed 6 = .ok (.iadd, 1) := by decide +kernel
theorem dX9_feed_7 : decode cX9_feed 7 = .ok (.sipush 400, 3) := by decide +kernel
theorem dX9_feed_10 : decode cX9_feed 10 = .ok (.if_icmp .le 6, 3) := by decide +kernel
theorem dX9_feed_13 : decode cX9_feed 13 = .ok (.bipush (-3), 2) := by decide +kernel
theorem dX9_feed_15 : decode cX9_feed 15 = .ok (.ireturn, 1) := by decide +kernel
theorem dX9_feed_16 : decode cX9_feed 16 = .ok (.bipush 56, 2) := by decide +kernel
theorem dX9_feed_18 : decode cX9_feed 18 = .ok (.istore_n 3, 1) := by decide +kernel
theorem dX9_feed_19 : decode cX9_feed 19 = .ok (.iload_n 3, 1) := by decide +kernel
theorem dX9_feed_20 : decode cX9_feed 20 = .ok (.ifCond .lt 36, 3) := by decide +kernel
theorem dX9_feed_23 : decode cX9_feed 23 = .ok (.aload_n 0, 1) := by decide +kernel
theorem dX9_feed_24 : decode cX9_feed 24 = .ok (.getfield 16, 3) := by decide +kernel
theorem dX9_feed_27 : decode cX9_feed 27 = .ok (.aload_n 0, 1) := by decide +kernel
theorem dX9_feed_28 : decode cX9_feed 28 = .ok (.getfield 59, 3) := by decide +kernel
theorem dX9_feed_31 : decode cX9_feed 31 = .ok (.lload_n 1, 1) := by decide +kernel
theorem dX9_feed_32 : decode cX9_feed 32 = .ok (.iload_n 3, 1) := by decide +kernel
theorem dX9_feed_33 : decode cX9_feed 33 = .ok (.lshr, 1) := by decide +kernel
theorem dX9_feed_34 : decode cX9_feed 34 = .ok (.l2i, 1) := by decide +kernel
theorem dX9_feed_35 : decode cX9_feed 35 = .ok (.sipush 255, 3) := by decide +kernel
theorem dX9_feed_38 : decode cX9_feed 38 = .ok (.iand, 1) := by decide +kernel
theorem dX9_feed_39 : decode cX9_feed 39 = .ok (.iastore, 1) := by decide +kernel
theorem dX9_feed_40 : decode cX9_feed 40 = .ok (.aload_n 0, 1) := by decide +kernel
theorem dX9_feed_41 : decode cX9_feed 41 = .ok (.dup, 1) := by decide +kernel
theorem dX9_feed_42 : decode cX9_feed 42 = .ok (.getfield 59, 3) := by decide +kernel
theorem dX9_feed_45 : decode cX9_feed 45 = .ok (.iconst 1, 1) := by decide +kernel
theorem dX9_feed_46 : decode cX9_feed 46 = .ok (.iadd, 1) := by decide +kernel
theorem dX9_feed_47 : decode cX9_feed 47 = .ok (.putfield 59, 3) := by decide +kernel
theorem dX9_feed_50 : decode cX9_feed 50 = .ok (.iinc 3 (-8), 3) := by decide +kernel
theorem dX9_feed_53 : decode cX9_feed 53 = .ok (.goto (-34), 3) := by decide +kernel
theorem dX9_feed_56 : decode cX9_feed 56 = .ok (.aload_n 0, 1) := by decide +kernel
theorem dX9_feed_57 : decode cX9_feed 57 = .ok (.getfield 59, 3) := by decide +kernel
theorem dX9_feed_60 : decode cX9_feed 60 = .ok (.ireturn, 1) := by decide +kernel
set_option maxRecDepth 20000 in
theorem ggX9_end_X9_in : GoodIn wsX9_end wsX9_in := goodIn_r _ [5] (by decide +kernel) (by decide +kernel)
set_option maxRecDepth 20000 in
theorem gX9_end_X9_in : GoodIn wsX9_end (va_wsS RX9 63 yX9_in wsX9_in) := goodIn_app (goodIn_of _ (by decide +kernel)) ggX9_end_X9_in
theorem dX9_end_0 : decode cX9_end 0 = .ok (.iload_n 1, 1) := by decide +kernel
theorem dX9_end_1 : decode cX9_end 1 = .ok (.i2l, 1) := by decide +kernel
theorem dX9_end_2 : decode cX9_end 2 = .ok (.lconst 0, 1) := by decide +kernel
theorem dX9_end_3 : decode cX9_end 3 = .ok (.aload_n 0, 1) := by decide +kernel
theorem dX9_end_4 : decode cX9_end 4 = .ok (.getfield 59, 3) := by decide +kernel
theorem dX9_end_7 : decode cX9_end 7 = .ok (.i2l, 1) := by decide +kernel
theorem dX9_end_8 : decode cX9_end 8 = .ok (.invokestatic 63, 3) := by decide +kernel
theorem dX9_end_11 : decode cX9_end 11 = .ok (.ifCond .ne 5, 3) := by decide +kernel
theorem dX9_end_14 : decode cX9_end 14 = .ok (.iconst (-1), 1) := by decide +kernel
theorem dX9_end_15 : decode cX9_end 15 = .ok (.ireturn, 1) := by decide +kernel
theorem dX9_end_16 : decode cX9_end 16 = .ok (.aload_n 0, 1) := by decide +kernel
theorem dX9_end_17 : decode cX9_end 17 = .ok (.getfield 59, 3) := by decide +kernel
theorem dX9_end_20 : decode cX9_end 20 = .ok (.istore_n 2, 1) := by decide +kernel
theorem dX9_end_21 : decode cX9_end 21 = .ok (.aload_n 0, 1) := by decide +kernel
theorem dX9_end_22 : decode cX9_end 22 = .ok (.iload_n 1, 1) := by decide +kernel
theorem dX9_end_23 : decode cX9_end 23 = .ok (.putfield 59, 3) := by decide +kernel
theorem dX9_end_26 : decode cX9_end 26 = .ok (.iload_n 2, 1) := by decide +kernel
theorem dX9_end_27 : decode cX9_end 27 = .ok (.ireturn, 1) := by decide +kernel
theorem dX9_byteAt_0 : decode cX9_byteAt 0 = .ok (.iload_n 1, 1) := by decide +kernel
theorem dX9_byteAt_1 : decode cX9_byteAt 1 = .ok (.aload_n 0, 1) := by decide +kernel
theorem dX9_byteAt_2 : decode cX9_byteAt 2 = .ok (.getfield 59, 3) := by decide +kernel
theorem dX9_byteAt_5 : decode cX9_byteAt 5 = .ok (.if_icmp .ge 12, 3) := by decide +kernel
theorem dX9_byteAt_8 : decode cX9_byteAt 8 = .ok (.aload_n 0, 1) := by decide +kernel
theorem dX9_byteAt_9 : decode cX9_byteAt 9 = .ok (.getfield 16, 3) := by decide +kernel
theorem dX9_byteAt_12 : decode cX9_byteAt 12 = .ok (.iload_n 1, 1) := by decide +kernel
theorem dX9_byteAt_13 : decode cX9_byteAt 13 = .ok (.iaload, 1) := by decide +kernel
theorem dX9_byteAt_14 : decode cX9_byteAt 14 = .ok (.goto 5, 3) := by decide +kernel
theorem dX9_byteAt_17 : decode cX9_byteAt 17 = .ok (.bipush (-4), 2) := by decide +kernel
theorem dX9_byteAt_19 : decode cX9_byteAt 19 = .ok (.ireturn, 1) := by decide +kernel
theorem dX9_fails_0 : decode cX9_fails 0 = .ok (.aload_n 0, 1) := by decide +kernel
theorem dX9_fails_1 : decode cX9_fails 1 = .ok (.getfield 67, 3) := by decide +kernel
theorem dX9_fails_4 : decode cX9_fails 4 = .ok (.ifCond .ne 16, 3) := by decide +kernel
theorem dX9_fails_7 : decode cX9_fails 7 = .ok (.aload_n 0, 1) := by decide +kernel
theorem dX9_fails_8 : decode cX9_fails 8 = .ok (.iload_n 1, 1) := by decide +kernel
theorem dX9_fails_9 : decode cX9_fails 9 = .ok (.putfield 67, 3) := by decide +kernel
theorem dX9_fails_12 : decode cX9_fails 12 = .ok (.aload_n 0, 1) := by decide +kernel
theorem dX9_fails_13 : decode cX9_fails 13 = .ok (.aload_n 0, 1) := by decide +kernel
theorem dX9_fails_14 : decode cX9_fails 14 = .ok (.getfield 70, 3) := by decide +kernel
theorem dX9_fails_17 : decode cX9_fails 17 = .ok (.putfield 73, 3) := by decide +kernel
theorem dX9_fails_20 : decode cX9_fails 20 = .ok (.return_, 1) := by decide +kernel
set_option maxRecDepth 20000 in
theorem ggX9_nameHere_X9_byteAt : GoodIn wsX9_nameHere wsX9_byteAt := goodIn_r _ [10, 11, 12, 13, 14, 15, 16, 17, 18, 19, 20, 21, 22, 23, 24, 25, 26, 27, 28, 29, 30, 31, 32, 33, 34, 35, 36, 37, 38, 39, 40, 41, 42, 43, 44, 45, 46] (by decide +kernel) (by decide +kernel)
set_option maxRecDepth 20000 in
theorem gX9_nameHere_X9_byteAt : GoodIn wsX9_nameHere (wsV RX9 82 RX9 yX9_byteAt wsX9_byteAt) := goodIn_app (goodIn_of _ (by decide +kernel)) ggX9_nameHere_X9_byteAt
theorem dX9_nameHere_0 : decode cX9_nameHere 0 = .ok (.iconst 0, 1) := by decide +kernel
theorem dX9_nameHere_1 : decode cX9_nameHere 1 = .ok (.istore_n 1, 1) := by decide +kernel
theorem dX9_nameHere_2 : decode cX9_nameHere 2 = .ok (.iload_n 1, 1) := by decide +kernel
theorem dX9_nameHere_3 : decode cX9_nameHere 3 = .ok (.bipush 9, 2) := by decide +kernel
theorem dX9_nameHere_5 : decode cX9_nameHere 5 = .ok (.if_icmp .ge 113, 3) := by decide +kernel
theorem dX9_nameHere_8 : decode cX9_nameHere 8 = .ok (.aload_n 0, 1) := by decide +kernel
theorem dX9_nameHere_9 : decode cX9_nameHere 9 = .ok (.getfield 76, 3) := by decide +kernel
theorem dX9_nameHere_12 : decode cX9_nameHere 12 = .ok (.iconst 1, 1) := by decide +kernel
theorem dX9_nameHere_13 : decode cX9_nameHere 13 = .ok (.if_icmp .ne 105, 3) := by decide +kernel
theorem dX9_nameHere_16 : decode cX9_nameHere 16 = .ok (.aload_n 0, 1) := by decide +kernel
theorem dX9_nameHere_17 : decode cX9_nameHere 17 = .ok (.getfield 79, 3) := by decide +kernel
theorem dX9_nameHere_20 : decode cX9_nameHere 20 = .ok (.aload_n 0, 1) := by decide +kernel
theorem dX9_nameHere_21 : decode cX9_nameHere 21 = .ok (.getfield 70, 3) := by decide +kernel
theorem dX9_nameHere_24 : decode cX9_nameHere 24 = .ok (.isub, 1) := by decide +kernel
theorem dX9_nameHere_25 : decode cX9_nameHere 25 = .ok (.aload_n 0, 1) := by decide +kernel
theorem dX9_nameHere_26 : decode cX9_nameHere 26 = .ok (.getfield 19, 3) := by decide +kernel
theorem dX9_nameHere_29 : decode cX9_nameHere 29 = .ok (.iload_n 1, 1) := by decide +kernel
theorem dX9_nameHere_30 : decode cX9_nameHere 30 = .ok (.iconst 1, 1) := by decide +kernel
theorem dX9_nameHere_31 : decode cX9_nameHere 31 = .ok (.iadd, 1) := by decide +kernel
theorem dX9_nameHere_32 : decode cX9_nameHere 32 = .ok (.iaload, 1) := by decide +kernel
theorem dX9_nameHere_33 : decode cX9_nameHere 33 = .ok (.aload_n 0, 1) := by decide +kernel
theorem dX9_nameHere_34 : decode cX9_nameHere 34 = .ok (.getfield 19, 3) := by decide +kernel
theorem dX9_nameHere_37 : decode cX9_nameHere 37 = .ok (.iload_n 1, 1) := by decide +kernel
theorem dX9_nameHere_38 : decode cX9_nameHere 38 = .ok (.iaload, 1) := by decide +kernel
theorem dX9_nameHere_39 : decode cX9_nameHere 39 = .ok (.isub, 1) := by decide +kernel
theorem dX9_nameHere_40 : decode cX9_nameHere 40 = .ok (.if_icmp .ne 7, 3) := by decide +kernel
theorem dX9_nameHere_43 : decode cX9_nameHere 43 = .ok (.iconst 1, 1) := by decide +kernel
theorem dX9_nameHere_44 : decode cX9_nameHere 44 = .ok (.goto 4, 3) := by decide +kernel
theorem dX9_nameHere_47 : decode cX9_nameHere 47 = .ok (.iconst 0, 1) := by decide +kernel
theorem dX9_nameHere_48 : decode cX9_nameHere 48 = .ok (.istore_n 2, 1) := by decide +kernel
theorem dX9_nameHere_49 : decode cX9_nameHere 49 = .ok (.iconst 0, 1) := by decide +kernel
theorem dX9_nameHere_50 : decode cX9_nameHere 50 = .ok (.istore_n 3, 1) := by decide +kernel
theorem dX9_nameHere_51 : decode cX9_nameHere 51 = .ok (.iload_n 2, 1) := by decide +kernel
theorem dX9_nameHere_52 : decode cX9_nameHere 52 = .ok (.ifCond .eq 54, 3) := by decide +kernel
theorem dX9_nameHere_55 : decode cX9_nameHere 55 = .ok (.iload_n 3, 1) := by decide +kernel
theorem dX9_nameHere_56 : decode cX9_nameHere 56 = .ok (.aload_n 0, 1) := by decide +kernel
theorem dX9_nameHere_57 : decode cX9_nameHere 57 = .ok (.getfield 79, 3) := by decide +kernel
theorem dX9_nameHere_60 : decode cX9_nameHere 60 = .ok (.aload_n 0, 1) := by decide +kernel
theorem dX9_nameHere_61 : decode cX9_nameHere 61 = .ok (.getfield 70, 3) := by decide +kernel
theorem dX9_nameHere_64 : decode cX9_nameHere 64 = .ok (.isub, 1) := by decide +kernel
theorem dX9_nameHere_65 : decode cX9_nameHere 65 = .ok (.if_icmp .ge 41, 3) := by decide +kernel
theorem dX9_nameHere_68 : decode cX9_nameHere 68 = .ok (.aload_n 0, 1) := by decide +kernel
theorem dX9_nameHere_69 : decode cX9_nameHere 69 = .ok (.aload_n 0, 1) := by decide +kernel
theorem dX9_nameHere_70 : decode cX9_nameHere 70 = .ok (.getfield 70, 3) := by decide +kernel
theorem dX9_nameHere_73 : decode cX9_nameHere 73 = .ok (.iload_n 3, 1) := by decide +kernel
theorem dX9_nameHere_74 : decode cX9_nameHere 74 = .ok (.iadd, 1) := by decide +kernel
theorem dX9_nameHere_75 : decode cX9_nameHere 75 = .ok (.invokevirtual 82, 3) := by decide +kernel
theorem dX9_nameHere_78 : decode cX9_nameHere 78 = .ok (.aload_n 0, 1) := by decide +kernel
theorem dX9_nameHere_79 : decode cX9_nameHere 79 = .ok (.getfield 22, 3) := by decide +kernel
theorem dX9_nameHere_82 : decode cX9_nameHere 82 = .ok (.aload_n 0, 1) := by decide +kernel
theorem dX9_nameHere_83 : decode cX9_nameHere 83 = .ok (.getfield 19, 3) := by decide +kernel
theorem dX9_nameHere_86 : decode cX9_nameHere 86 = .ok (.iload_n 1, 1) := by decide +kernel
theorem dX9_nameHere_87 : decode cX9_nameHere 87 = .ok (.iaload, 1) := by decide +kernel
theorem dX9_nameHere_88 : decode cX9_nameHere 88 = .ok (.iload_n 3, 1) := by decide +kernel
theorem dX9_nameHere_89 : decode cX9_nameHere 89 = .ok (.iadd, 1) := by decide +kernel
theorem dX9_nameHere_90 : decode cX9_nameHere 90 = .ok (.iaload, 1) := by decide +kernel
theorem dX9_nameHere_91 : decode cX9_nameHere 91 = .ok (.if_icmp .ne 7, 3) := by decide +kernel
theorem dX9_nameHere_94 : decode cX9_nameHere 94 = .ok (.iconst 1, 1) := by decide +kernel
theorem dX9_nameHere_95 : decode cX9_nameHere 95 = .ok (.goto 4, 3) := by decide +kernel
theorem dX9_nameHere_98 : decode cX9_nameHere 98 = .ok (.iconst 0, 1) := by decide +kernel
theorem dX9_nameHere_99 : decode cX9_nameHere 99 = .ok (.istore_n 2, 1) := by decide +kernel
theorem dX9_nameHere_100 : decode cX9_nameHere 100 = .ok (.iinc 3 1, 3) := by decide +kernel
theorem dX9_nameHere_103 : decode cX9_nameHere 103 = .ok (.goto (-52), 3) := by decide +kernel
theorem dX9_nameHere_106 : decode cX9_nameHere 106 = .ok (.iload_n 2, 1) := by decide +kernel
theorem dX9_nameHere_107 : decode cX9_nameHere 107 = .ok (.ifCond .eq 5, 3) := by decide +kernel
theorem dX9_nameHere_110 : decode cX9_nameHere 110 = .ok (.iload_n 1, 1) := by decide +kernel
theorem dX9_nameHere_111 : decode cX9_nameHere 111 = .ok (.ireturn, 1) := by decide +kernel
theorem dX9_nameHere_112 : decode cX9_nameHere 112 = .ok (.iinc 1 1, 3) := by decide +kernel
theorem dX9_nameHere_115 : decode cX9_nameHere 115 = .ok (.goto (-113), 3) := by decide +kernel
theorem dX9_nameHere_118 : decode cX9_nameHere 118 = .ok (.bipush (-4), 2) := by decide +kernel
theorem dX9_nameHere_120 : decode cX9_nameHere 120 = .ok (.ireturn, 1) := by decide +kernel
set_option maxRecDepth 20000 in
theorem ggX9_step_X9_byteAt : GoodIn wsX9_step wsX9_byteAt := goodIn_r _ [14, 15, 16, 25, 26, 27, 28, 29, 30, 31, 32, 33, 34, 35, 36, 37, 38, 39, 40, 41, 42, 43, 44, 45, 46, 47, 48, 49, 50, 51, 52, 53, 54, 55, 56, 57, 58] (by decide +kernel) (by decide +kernel)
set_option maxRecDepth 20000 in
theorem gX9_step_X9_byteAt : GoodIn wsX9_step (wsV RX9 82 RX9 yX9_byteAt wsX9_byteAt) := goodIn_app (goodIn_of _ (by decide +kernel)) ggX9_step_X9_byteAt
set_option maxRecDepth 20000 in
theorem ggX9_step_X9_in : GoodIn wsX9_step wsX9_in := goodIn_r _ [19] (by decide +kernel) (by decide +kernel)
set_option maxRecDepth 20000 in
theorem gX9_step_X9_in : GoodIn wsX9_step (va_wsS RX9 63 yX9_in wsX9_in) := goodIn_app (goodIn_of _ (by decide +kernel)) ggX9_step_X9_in
set_option maxRecDepth 20000 in
theorem ggX9_step_X9_fails : GoodIn wsX9_step wsX9_fails := goodIn_r _ [23, 1, 3, 24, 25, 26, 27, 28, 29, 30, 31, 32, 33, 34, 35, 36, 37, 38, 39, 40, 41, 42, 43, 44, 45, 46, 47, 48, 49, 50, 51, 52, 53, 54, 55, 56, 57, 58] (by decide +kernel) (by decide +kernel)
set_option maxRecDepth 20000 in
theorem gX9_step_X9_fails : GoodIn wsX9_step (wsV RX9 97 RX9 yX9_fails wsX9_fails) := goodIn_app (goodIn_of _ (by decide +kernel)) ggX9_step_X9_fails
theorem dX9_step_0 : decode cX9_step 0 = .ok (.aload_n 0, 1) := by decide +kernel
theorem dX9_step_1 : decode cX9_step 1 = .ok (.getfield 67, 3) := by decide +kernel
theorem dX9_step_4 : decode cX9_step 4 = .ok (.ifCond .le 4, 3) := by decide +kernel
theorem dX9_step_7 : decode cX9_step 7 = .ok (.return_, 1) := by decide +kernel
theorem dX9_step_8 : decode cX9_step 8 = .ok (.aload_n 0, 1) := by decide +kernel
theorem dX9_step_9 : decode cX9_step 9 = .ok (.aload_n 0, 1) := by decide +kernel
theorem dX9_step_10 : decode cX9_step 10 = .ok (.getfield 79, 3) := by decide +kernel
theorem dX9_step_13 : decode cX9_step 13 = .ok (.invokevirtual 82, 3) := by decide +kernel
theorem dX9_step_16 : decode cX9_step 16 = .ok (.bipush 32, 2) := by decide +kernel
theorem dX9_step_18 : decode cX9_step 18 = .ok (.if_icmp .ne 16, 3) := by decide +kernel
theorem dX9_step_21 : decode cX9_step 21 = .ok (.aload_n 0, 1) := by decide +kernel
theorem dX9_step_22 : decode cX9_step 22 = .ok (.dup, 1) := by decide +kernel
theorem dX9_step_23 : decode cX9_step 23 = .ok (.getfield 79, 3) := by decide +kernel
theorem dX9_step_26 : decode cX9_step 26 = .ok (.iconst 1, 1) := by decide +kernel
theorem dX9_step_27 : decode cX9_step 27 = .ok (.iadd, 1) := by decide +kernel
theorem dX9_step_28 : decode cX9_step 28 = .ok (.putfield 79, 3) := by decide +kernel
theorem dX9_step_31 : decode cX9_step 31 = .ok (.goto (-23), 3) := by decide +kernel
theorem dX9_step_34 : decode cX9_step 34 = .ok (.aload_n 0, 1) := by decide +kernel
theorem dX9_step_35 : decode cX9_step 35 = .ok (.aload_n 0, 1) := by decide +kernel
theorem dX9_step_36 : decode cX9_step 36 = .ok (.getfield 79, 3) := by decide +kernel
theorem dX9_step_39 : decode cX9_step 39 = .ok (.putfield 70, 3) := by decide +kernel
theorem dX9_step_42 : decode cX9_step 42 = .ok (.aload_n 0, 1) := by decide +kernel
theorem dX9_step_43 : decode cX9_step 43 = .ok (.aload_n 0, 1) := by decide +kernel
theorem dX9_step_44 : decode cX9_step 44 = .ok (.getfield 79, 3) := by decide +kernel
theorem dX9_step_47 : decode cX9_step 47 = .ok (.invokevirtual 82, 3) := by decide +kernel
theorem dX9_step_50 : decode cX9_step 50 = .ok (.istore_n 1, 1) := by decide +kernel
theorem dX9_step_51 : decode cX9_step 51 = .ok (.aload_n 0, 1) := by decide +kernel
theorem dX9_step_52 : decode cX9_step 52 = .ok (.iconst 0, 1) := by decide +kernel
theorem dX9_step_53 : decode cX9_step 53 = .ok (.putfield 86, 3) := by decide +kernel
theorem dX9_step_56 : decode cX9_step 56 = .ok (.iload_n 1, 1) := by decide +kernel
theorem dX9_step_57 : decode cX9_step 57 = .ok (.bipush (-4), 2) := by decide +kernel
theorem dX9_step_59 : decode cX9_step 59 = .ok (.if_icmp .ne 11, 3) := by decide +kernel
theorem dX9_step_62 : decode cX9_step 62 = .ok (.aload_n 0, 1) := by decide +kernel
theorem dX9_step_63 : decode cX9_step 63 = .ok (.iconst 0, 1) := by decide +kernel
theorem dX9_step_64 : decode cX9_step 64 = .ok (.putfield 76, 3) := by decide +kernel
theorem dX9_step_67 : decode cX9_step 67 = .ok (.goto 202, 3) := by decide +kernel
theorem dX9_step_70 : decode cX9_step 70 = .ok (.iload_n 1, 1) := by decide +kernel
theorem dX9_step_71 : decode cX9_step 71 = .ok (.i2l, 1) := by decide +kernel
theorem dX9_step_72 : decode cX9_step 72 = .ok (.ldc2_w 89, 3) := by decide +kernel
theorem dX9_step_75 : decode cX9_step 75 = .ok (.ldc2_w 91, 3) := by decide +kernel
theorem dX9_step_78 : decode cX9_step 78 = .ok (.invokestatic 63, 3) := by decide +kernel
theorem dX9_step_81 : decode cX9_step 81 = .ok (.ifCond .eq 45, 3) := by decide +kernel
theorem dX9_step_84 : decode cX9_step 84 = .ok (.aload_n 0, 1) := by decide +kernel
theorem dX9_step_85 : decode cX9_step 85 = .ok (.aload_n 0, 1) := by decide +kernel
theorem dX9_step_86 : decode cX9_step 86 = .ok (.getfield 79, 3) := by decide +kernel
theorem dX9_step_89 : decode cX9_step 89 = .ok (.invokevirtual 82, 3) := by decide +kernel
theorem dX9_step_92 : decode cX9_step 92 = .ok (.i2l, 1) := by decide +kernel
theorem dX9_step_93 : decode cX9_step 93 = .ok (.ldc2_w 89, 3) := by decide +kernel
theorem dX9_step_96 : decode cX9_step 96 = .ok (.ldc2_w 91, 3) := by decide +kernel
theorem dX9_step_99 : decode cX9_step 99 = .ok (.invokestatic 63, 3) := by decide +kernel
theorem dX9_step_102 : decode cX9_step 102 = .ok (.ifCond .eq 16, 3) := by decide +kernel
theorem dX9_step_105 : decode cX9_step 105 = .ok (.aload_n 0, 1) := by decide +kernel
theorem dX9_step_106 : decode cX9_step 106 = .ok (.dup, 1) := by decide +kernel
theorem dX9_step_107 : decode cX9_step 107 = .ok (.getfield 79, 3) := by decide +kernel
theorem dX9_step_110 : decode cX9_step 110 = .ok (.iconst 1, 1) := by decide +kernel
theorem dX9_step_111 : decode cX9_step 111 = .ok (.iadd, 1) := by decide +kernel
theorem dX9_step_112 : decode cX9_step 112 = .ok (.putfield 79, 3) := by decide +kernel
theorem dX9_step_115 : decode cX9_step 115 = .ok (.goto (-31), 3) := by decide +kernel
theorem dX9_step_118 : decode cX9_step 118 = .ok (.aload_n 0, 1) := by decide +kernel
theorem dX9_step_119 : decode cX9_step 119 = .ok (.iconst 1, 1) := by decide +kernel
theorem dX9_step_120 : decode cX9_step 120 = .ok (.putfield 76, 3) := by decide +kernel
theorem dX9_step_123 : decode cX9_step 123 = .ok (.goto 146, 3) := by decide +kernel
theorem dX9_step_126 : decode cX9_step 126 = .ok (.iload_n 1, 1) := by decide +kernel
theorem dX9_step_127 : decode cX9_step 127 = .ok (.i2l, 1) := by decide +kernel
theorem dX9_step_128 : decode cX9_step 128 = .ok (.ldc2_w 93, 3) := by decide +kernel
theorem dX9_step_131 : decode cX9_step 131 = .ok (.ldc2_w 95, 3) := by decide +kernel
theorem dX9_step_134 : decode cX9_step 134 = .ok (.invokestatic 63, 3) := by decide +kernel
theorem dX9_step_137 : decode cX9_step 137 = .ok (.ifCond .eq 106, 3) := by decide +kernel
theorem dX9_step_140 : decode cX9_step 140 = .ok (.aload_n 0, 1) := by decide +kernel
theorem dX9_step_141 : decode cX9_step 141 = .ok (.aload_n 0, 1) := by decide +kernel
theorem dX9_step_142 : decode cX9_step 142 = .ok (.getfield 79, 3) := by decide +kernel
theorem dX9_step_145 : decode cX9_step 145 = .ok (.invokevirtual 82, 3) := by decide +kernel
theorem dX9_step_148 : decode cX9_step 148 = .ok (.i2l, 1) := by decide +kernel
theorem dX9_step_149 : decode cX9_step 149 = .ok (.ldc2_w 93, 3) := by decide +kernel
theorem dX9_step_152 : decode cX9_step 152 = .ok (.ldc2_w 95, 3) := by decide +kernel
theorem dX9_step_155 : decode cX9_step 155 = .ok (.invokestatic 63, 3) := by decide +kernel
theorem dX9_step_158 : decode cX9_step 158 = .ok (.ifCond .eq 59, 3) := by decide +kernel
theorem dX9_step_161 : decode cX9_step 161 = .ok (.aload_n 0, 1) := by decide +kernel
theorem dX9_step_162 : decode cX9_step 162 = .ok (.aload_n 0, 1) := by decide +kernel
theorem dX9_step_163 : decode cX9_step 163 = .ok (.getfield 79, 3) := by decide +kernel
theorem dX9_step_166 : decode cX9_step 166 = .ok (.aload_n 0, 1) := by decide +kernel
theorem dX9_step_167 : decode cX9_step 167 = .ok (.getfield 70, 3) := by decide +kernel
theorem dX9_step_170 : decode cX9_step 170 = .ok (.isub, 1) := by decide +kernel
theorem dX9_step_171 : decode cX9_step 171 = .ok (.iconst 2, 1) := by decide +kernel
theorem dX9_step_172 : decode cX9_step 172 = .ok (.if_icmp .ge 25, 3) := by decide +kernel
theorem dX9_step_175 : decode cX9_step 175 = .ok (.bipush 10, 2) := by decide +kernel
theorem dX9_step_177 : decode cX9_step 177 = .ok (.aload_n 0, 1) := by decide +kernel
theorem dX9_step_178 : decode cX9_step 178 = .ok (.getfield 86, 3) := by decide +kernel
theorem dX9_step_181 : decode cX9_step 181 = .ok (.imul, 1) := by decide +kernel
theorem dX9_step_182 : decode cX9_step 182 = .ok (.aload_n 0, 1) := by decide +kernel
theorem dX9_step_183 : decode cX9_step 183 = .ok (.aload_n 0, 1) := by decide +kernel
theorem dX9_step_184 : decode cX9_step 184 = .ok (.getfield 79, 3) := by decide +kernel
theorem dX9_step_187 : decode cX9_step 187 = .ok (.invokevirtual 82, 3) := by decide +kernel
theorem dX9_step_190 : decode cX9_step 190 = .ok (.iadd, 1) := by decide +kernel
theorem dX9_step_191 : decode cX9_step 191 = .ok (.bipush 48, 2) := by decide +kernel
theorem dX9_step_193 : decode cX9_step 193 = .ok (.isub, 1) := by decide +kernel
theorem dX9_step_194 : decode cX9_step 194 = .ok (.goto 7, 3) := by decide +kernel
theorem dX9_step_197 : decode cX9_step 197 = .ok (.aload_n 0, 1) := by decide +kernel
theorem dX9_step_198 : decode cX9_step 198 = .ok (.getfield 86, 3) := by decide +kernel
theorem dX9_step_201 : decode cX9_step 201 = .ok (.putfield 86, 3) := by decide +kernel
theorem dX9_step_204 : decode cX9_step 204 = .ok (.aload_n 0, 1) := by decide +kernel
theorem dX9_step_205 : decode cX9_step 205 = .ok (.dup, 1) := by decide +kernel
theorem dX9_step_206 : decode cX9_step 206 = .ok (.getfield 79, 3) := by decide +kernel
theorem dX9_step_209 : decode cX9_step 209 = .ok (.iconst 1, 1) := by decide +kernel
theorem dX9_step_210 : decode cX9_step 210 = .ok (.iadd, 1) := by decide +kernel
theorem dX9_step_211 : decode cX9_step 211 = .ok (.putfield 79, 3) := by decide +kernel
theorem dX9_step_214 : decode cX9_step 214 = .ok (.goto (-74), 3) := by decide +kernel
theorem dX9_step_217 : decode cX9_step 217 = .ok (.aload_n 0, 1) := by decide +kernel
theorem dX9_step_218 : decode cX9_step 218 = .ok (.iconst 2, 1) := by decide +kernel
theorem dX9_step_219 : decode cX9_step 219 = .ok (.putfield 76, 3) := by decide +kernel
theorem dX9_step_222 : decode cX9_step 222 = .ok (.aload_n 0, 1) := by decide +kernel
theorem dX9_step_223 : decode cX9_step 223 = .ok (.getfield 79, 3) := by decide +kernel
theorem dX9_step_226 : decode cX9_step 226 = .ok (.aload_n 0, 1) := by decide +kernel
theorem dX9_step_227 : decode cX9_step 227 = .ok (.getfield 70, 3) := by decide +kernel
theorem dX9_step_230 : decode cX9_step 230 = .ok (.isub, 1) := by decide +kernel
theorem dX9_step_231 : decode cX9_step 231 = .ok (.iconst 2, 1) := by decide +kernel
theorem dX9_step_232 : decode cX9_step 232 = .ok (.if_icmp .le 37, 3) := by decide +kernel
theorem dX9_step_235 : decode cX9_step 235 = .ok (.aload_n 0, 1) := by decide +kernel
theorem dX9_step_236 : decode cX9_step 236 = .ok (.iconst 1, 1) := by decide +kernel
theorem dX9_step_237 : decode cX9_step 237 = .ok (.invokevirtual 97, 3) := by decide +kernel
theorem dX9_step_240 : decode cX9_step 240 = .ok (.goto 29, 3) := by decide +kernel
theorem dX9_step_243 : decode cX9_step 243 = .ok (.aload_n 0, 1) := by decide +kernel
theorem dX9_step_244 : decode cX9_step 244 = .ok (.iconst 3, 1) := by decide +kernel
theorem dX9_step_245 : decode cX9_step 245 = .ok (.putfield 76, 3) := by decide +kernel
theorem dX9_step_248 : decode cX9_step 248 = .ok (.aload_n 0, 1) := by decide +kernel
theorem dX9_step_249 : decode cX9_step 249 = .ok (.dup, 1) := by decide +kernel
theorem dX9_step_250 : decode cX9_step 250 = .ok (.getfield 79, 3) := by decide +kernel
theorem dX9_step_253 : decode cX9_step 253 = .ok (.iconst 1, 1) := by decide +kernel
theorem dX9_step_254 : decode cX9_step 254 = .ok (.iadd, 1) := by decide +kernel
theorem dX9_step_255 : decode cX9_step 255 = .ok (.putfield 79, 3) := by decide +kernel
theorem dX9_step_258 : decode cX9_step 258 = .ok (.iload_n 1, 1) := by decide +kernel
theorem dX9_step_259 : decode cX9_step 259 = .ok (.bipush 59, 2) := by decide +kernel
theorem dX9_step_261 : decode cX9_step 261 = .ok (.if_icmp .eq 8, 3) := by decide +kernel
theorem dX9_step_264 : decode cX9_step 264 = .ok (.aload_n 0, 1) := by decide +kernel
theorem dX9_step_265 : decode cX9_step 265 = .ok (.iconst 1, 1) := by decide +kernel
theorem dX9_step_266 : decode cX9_step 266 = .ok (.invokevirtual 97, 3) := by decide +kernel
theorem dX9_step_269 : decode cX9_step 269 = .ok (.return_, 1) := by decide +kernel
set_option maxRecDepth 20000 in
theorem ggX9_looks_X9_fails : GoodIn wsX9_looks wsX9_fails := goodIn_r _ [8, 1, 9, 10, 14, 15, 16, 17, 18, 19, 20, 21, 22, 23, 24, 25, 26, 27, 28, 29, 30, 31, 32, 33, 34, 35, 36, 37, 38, 39, 40, 41, 42, 43, 44, 45, 46, 47] (by decide +kernel) (by decide +kernel)
set_option maxRecDepth 20000 in
theorem gX9_looks_X9_fails : GoodIn wsX9_looks (wsV RX9 97 RX9 yX9_fails wsX9_fails) := goodIn_app (goodIn_of _ (by decide +kernel)) ggX9_looks_X9_fails
set_option maxRecDepth 20000 in
theorem ggX9_looks_X9_in : GoodIn wsX9_looks wsX9_in := goodIn_r _ [13] (by decide +kernel) (by decide +kernel)
set_option maxRecDepth 20000 in
theorem gX9_looks_X9_in : GoodIn wsX9_looks (va_wsS RX9 63 yX9_in wsX9_in) := goodIn_app (goodIn_of _ (by decide +kernel)) ggX9_looks_X9_in
theorem dX9_looks_0 : decode cX9_looks 0 = .ok (.aload_n 0, 1) := by decide +kernel
theorem dX9_looks_1 : decode cX9_looks 1 = .ok (.getfield 67, 3) := by decide +kernel
theorem dX9_looks_4 : decode cX9_looks 4 = .ok (.ifCond .ne 16, 3) := by decide +kernel
theorem dX9_looks_7 : decode cX9_looks 7 = .ok (.aload_n 0, 1) := by decide +kernel
theorem dX9_looks_8 : decode cX9_looks 8 = .ok (.getfield 76, 3) := by decide +kernel
theorem dX9_looks_11 : decode cX9_looks 11 = .ok (.iconst 2, 1) := by decide +kernel
theorem dX9_looks_12 : decode cX9_looks 12 = .ok (.if_icmp .eq 8, 3) := by decide +kernel
theorem dX9_looks_15 : decode cX9_looks 15 = .ok (.aload_n 0, 1) := by decide +kernel
theorem dX9_looks_16 : decode cX9_looks 16 = .ok (.iconst 2, 1) := by decide +kernel
theorem dX9_looks_17 : decode cX9_looks 17 = .ok (.invokevirtual 97, 3) := by decide +kernel
theorem dX9_looks_20 : decode cX9_looks 20 = .ok (.aload_n 0, 1) := by decide +kernel
theorem dX9_looks_21 : decode cX9_looks 21 = .ok (.getfield 67, 3) := by decide +kernel
theorem dX9_looks_24 : decode cX9_looks 24 = .ok (.ifCond .ne 23, 3) := by decide +kernel
theorem dX9_looks_27 : decode cX9_looks 27 = .ok (.aload_n 0, 1) := by decide +kernel
theorem dX9_looks_28 : decode cX9_looks 28 = .ok (.getfield 86, 3) := by decide +kernel
theorem dX9_looks_31 : decode cX9_looks 31 = .ok (.i2l, 1) := by decide +kernel
theorem dX9_looks_32 : decode cX9_looks 32 = .ok (.iload_n 1, 1) := by decide +kernel
theorem dX9_looks_33 : decode cX9_looks 33 = .ok (.i2l, 1) := by decide +kernel
theorem dX9_looks_34 : decode cX9_looks 34 = .ok (.iload_n 2, 1) := by decide +kernel
theorem dX9_looks_35 : decode cX9_looks 35 = .ok (.i2l, 1) := by decide +kernel
theorem dX9_looks_36 : decode cX9_looks 36 = .ok (.invokestatic 63, 3) := by decide +kernel
theorem dX9_looks_39 : decode cX9_looks 39 = .ok (.ifCond .ne 8, 3) := by decide +kernel
theorem dX9_looks_42 : decode cX9_looks 42 = .ok (.aload_n 0, 1) := by decide +kernel
theorem dX9_looks_43 : decode cX9_looks 43 = .ok (.iconst 3, 1) := by decide +kernel
theorem dX9_looks_44 : decode cX9_looks 44 = .ok (.invokevirtual 97, 3) := by decide +kernel
theorem dX9_looks_47 : decode cX9_looks 47 = .ok (.aload_n 0, 1) := by decide +kernel
theorem dX9_looks_48 : decode cX9_looks 48 = .ok (.getfield 67, 3) := by decide +kernel
theorem dX9_looks_51 : decode cX9_looks 51 = .ok (.ifCond .ne 10, 3) := by decide +kernel
theorem dX9_looks_54 : decode cX9_looks 54 = .ok (.aload_n 0, 1) := by decide +kernel
theorem dX9_looks_55 : decode cX9_looks 55 = .ok (.getfield 86, 3) := by decide +kernel
theorem dX9_looks_58 : decode cX9_looks 58 = .ok (.goto 4, 3) := by decide +kernel
theorem dX9_looks_61 : decode cX9_looks 61 = .ok (.iload_n 1, 1) := by decide +kernel
theorem dX9_looks_62 : decode cX9_looks 62 = .ok (.ireturn, 1) := by decide +kernel
set_option maxRecDepth 20000 in
theorem ggX9_number_X9_looks : GoodIn wsX9_number wsX9_looks := goodIn_r _ [5, 6, 7, 8, 9, 10, 11, 4, 12, 13, 14, 15, 16, 17, 33, 34, 35, 36, 37, 38, 39, 40, 41, 42, 43, 44, 45, 46, 47, 48, 49, 50, 51, 52, 53, 54, 55, 56, 57, 58, 59, 60, 61, 62, 63, 64, 65, 66] (by decide +kernel) (by decide +kernel)
set_option maxRecDepth 20000 in
theorem gX9_number_X9_looks : GoodIn wsX9_number (wsV RX9 101 RX9 yX9_looks wsX9_looks) := goodIn_app (goodIn_of _ (by decide +kernel)) ggX9_number_X9_looks
set_option maxRecDepth 20000 in
theorem ggX9_number_X9_step : GoodIn wsX9_number wsX9_step := goodIn_r _ [21, 6, 22, 13, 8, 7, 23, 24, 25, 26, 27, 28, 29, 4, 30, 31, 32, 15, 16, 17, 9, 10, 11, 12, 14, 33, 34, 35, 36, 37, 38, 39, 40, 41, 42, 43, 44, 45, 46, 47, 48, 49, 50, 51, 52, 53, 54, 55, 56, 57, 58, 59, 60, 61, 62, 63, 64, 65, 66] (by decide +kernel) (by decide +kernel)
set_option maxRecDepth 20000 in
theorem gX9_number_X9_step : GoodIn wsX9_number (wsV RX9 105 RX9 yX9_step wsX9_step) := goodIn_app (goodIn_of _ (by decide +kernel)) ggX9_number_X9_step
theorem dX9_number_0 : decode cX9_number 0 = .ok (.aload_n 0, 1) := by decide +kernel
theorem dX9_number_1 : decode cX9_number 1 = .ok (.iload_n 1, 1) := by decide +kernel
theorem dX9_number_2 : decode cX9_number 2 = .ok (.iload_n 2, 1) := by decide +kernel
theorem dX9_number_3 : decode cX9_number 3 = .ok (.invokevirtual 101, 3) := by decide +kernel
theorem dX9_number_6 : decode cX9_number 6 = .ok (.istore_n 3, 1) := by decide +kernel
theorem dX9_number_7 : decode cX9_number 7 = .ok (.aload_n 0, 1) := by decide +kernel
theorem dX9_number_8 : decode cX9_number 8 = .ok (.invokevirtual 105, 3) := by decide +kernel
theorem dX9_number_11 : decode cX9_number 11 = .ok (.iload_n 3, 1) := by decide +kernel
theorem dX9_number_12 : decode cX9_number 12 = .ok (.ireturn, 1) := by decide +kernel
set_option maxRecDepth 20000 in
theorem ggX9_oneHere_X9_looks : GoodIn wsX9_oneHere wsX9_looks := goodIn_r _ [6, 7, 8, 9, 10, 11, 12, 5, 13, 14, 15, 16, 17, 18, 19, 20, 21, 22, 23, 24, 25, 26, 27, 28, 29, 30, 31, 32, 33, 34, 35, 36, 37, 38, 39, 40, 41, 42, 43, 44, 45, 46, 47, 48, 49, 50, 51, 52] (by decide +kernel) (by decide +kernel)
set_option maxRecDepth 20000 in
theorem gX9_oneHere_X9_looks : GoodIn wsX9_oneHere (wsV RX9 101 RX9 yX9_looks wsX9_looks) := goodIn_app (goodIn_of _ (by decide +kernel)) ggX9_oneHere_X9_looks
theorem dX9_oneHere_0 : decode cX9_oneHere 0 = .ok (.aload_n 0, 1) := by decide +kernel
theorem dX9_oneHere_1 : decode cX9_oneHere 1 = .ok (.iconst 0, 1) := by decide +kernel
theorem dX9_oneHere_2 : decode cX9_oneHere 2 = .ok (.bipush 6, 2) := by decide +kernel
theorem dX9_oneHere_4 : decode cX9_oneHere 4 = .ok (.invokevirtual 101, 3) := by decide +kernel
theorem dX9_oneHere_7 : decode cX9_oneHere 7 = .ok (.istore_n 1, 1) := by decide +kernel
theorem dX9_oneHere_8 : decode cX9_oneHere 8 = .ok (.aload_n 0, 1) := by decide +kernel
theorem dX9_oneHere_9 : decode cX9_oneHere 9 = .ok (.iload_n 1, 1) := by decide +kernel
theorem dX9_oneHere_10 : decode cX9_oneHere 10 = .ok (.aload_n 0, 1) := by decide +kernel
theorem dX9_oneHere_11 : decode cX9_oneHere 11 = .ok (.getfield 108, 3) := by decide +kernel
theorem dX9_oneHere_14 : decode cX9_oneHere 14 = .ok (.if_icmp .le 7, 3) := by decide +kernel
theorem dX9_oneHere_17 : decode cX9_oneHere 17 = .ok (.iload_n 1, 1) := by decide +kernel
theorem dX9_oneHere_18 : decode cX9_oneHere 18 = .ok (.goto 7, 3) := by decide +kernel
theorem dX9_oneHere_21 : decode cX9_oneHere 21 = .ok (.aload_n 0, 1) := by decide +kernel
theorem dX9_oneHere_22 : decode cX9_oneHere 22 = .ok (.getfield 108, 3) := by decide +kernel
theorem dX9_oneHere_25 : decode cX9_oneHere 25 = .ok (.putfield 108, 3) := by decide +kernel
theorem dX9_oneHere_28 : decode cX9_oneHere 28 = .ok (.iload_n 1, 1) := by decide +kernel
theorem dX9_oneHere_29 : decode cX9_oneHere 29 = .ok (.ireturn, 1) := by decide +kernel
set_option maxRecDepth 20000 in
theorem ggX9_readOne_X9_fails : GoodIn wsX9_readOne wsX9_fails := goodIn_r _ [8, 2, 9, 10, 49, 50, 51, 52, 53, 54, 55, 56, 57, 58, 59, 60, 61, 62, 63, 64, 65, 66, 67, 68, 69, 70, 71, 72, 73, 74, 75, 76, 77, 78, 79, 80, 81, 82] (by decide +kernel) (by decide +kernel)
set_option maxRecDepth 20000 in
theorem gX9_readOne_X9_fails : GoodIn wsX9_readOne (wsV RX9 97 RX9 yX9_fails wsX9_fails) := goodIn_app (goodIn_of _ (by decide +kernel)) ggX9_readOne_X9_fails
set_option maxRecDepth 20000 in
theorem ggX9_readOne_X9_step : GoodIn wsX9_readOne wsX9_step := goodIn_r _ [14, 2, 15, 9, 3, 16, 17, 18, 19, 20, 21, 22, 23, 7, 24, 25, 26, 27, 28, 29, 4, 5, 6, 8, 10, 49, 50, 51, 52, 53, 54, 55, 56, 57, 58, 59, 60, 61, 62, 63, 64, 65, 66, 67, 68, 69, 70, 71, 72, 73, 74, 75, 76, 77, 78, 79, 80, 81, 82] (by decide +kernel) (by decide +kernel)
set_option maxRecDepth 20000 in
theorem gX9_readOne_X9_step : GoodIn wsX9_readOne (wsV RX9 105 RX9 yX9_step wsX9_step) := goodIn_app (goodIn_of _ (by decide +kernel)) ggX9_readOne_X9_step
set_option maxRecDepth 20000 in
theorem ggX9_readOne_X9_nameHere : GoodIn wsX9_readOne wsX9_nameHere := goodIn_r _ [33, 16, 15, 9, 34, 35, 21, 22, 23, 7, 24, 25, 26, 49, 50, 51, 52, 53, 54, 55, 56, 57, 58, 59, 60, 61, 62, 63, 64, 65, 66, 67, 68, 69, 70, 71, 72, 73, 74, 75, 76, 77, 78, 79, 80, 81, 82] (by decide +kernel) (by decide +kernel)
set_option maxRecDepth 20000 in
theorem gX9_readOne_X9_nameHere : GoodIn wsX9_readOne (wsV RX9 111 RX9 yX9_nameHere wsX9_nameHere) := goodIn_app (goodIn_of _ (by decide +kernel)) ggX9_readOne_X9_nameHere
set_option maxRecDepth 20000 in
theorem ggX9_readOne_X9_oneHere : GoodIn wsX9_readOne wsX9_oneHere := goodIn_r _ [39, 40, 41, 42, 43, 7, 44, 2, 16, 3, 4, 5, 6, 8, 9, 10, 27, 28, 29, 49, 50, 51, 52, 53, 54, 55, 56, 57, 58, 59, 60, 61, 62, 63, 64, 65, 66, 67, 68, 69, 70, 71, 72, 73, 74, 75, 76, 77, 78, 79, 80, 81, 82] (by decide +kernel) (by decide +kernel)
set_option maxRecDepth 20000 in
theorem gX9_readOne_X9_oneHere : GoodIn wsX9_readOne (wsV RX9 115 RX9 yX9_oneHere wsX9_oneHere) := goodIn_app (goodIn_of _ (by decide +kernel)) ggX9_readOne_X9_oneHere
set_option maxRecDepth 20000 in
theorem ggX9_readOne_X9_number : GoodIn wsX9_readOne wsX9_number := goodIn_r _ [48, 41, 42, 43, 7, 44, 2, 16, 3, 4, 5, 6, 8, 9, 10, 27, 28, 29, 11, 12, 13, 14, 15, 17, 18, 19, 20, 21, 22, 23, 24, 25, 26, 49, 50, 51, 52, 53, 54, 55, 56, 57, 58, 59, 60, 61, 62, 63, 64, 65, 66, 67, 68, 69, 70, 71, 72, 73, 74, 75, 76, 77, 78, 79, 80, 81, 82] (by decide +kernel) (by decide +kernel)
set_option maxRecDepth 20000 in
theorem gX9_readOne_X9_number : GoodIn wsX9_readOne (wsV RX9 118 RX9 yX9_number wsX9_number) := goodIn_app (goodIn_of _ (by decide +kernel)) ggX9_readOne_X9_number
theorem dX9_readOne_0 : decode cX9_readOne 0 = .ok (.aload_n 0, 1) := by decide +kernel
theorem dX9_readOne_1 : decode cX9_readOne 1 = .ok (.getfield 13, 3) := by decide +kernel
theorem dX9_readOne_4 : decode cX9_readOne 4 = .ok (.bipush 93, 2) := by decide +kernel
theorem dX9_readOne_6 : decode cX9_readOne 6 = .ok (.iaload, 1) := by decide +kernel
theorem dX9_readOne_7 : decode cX9_readOne 7 = .ok (.istore_n 1, 1) := by decide +kernel
theorem dX9_readOne_8 : decode cX9_readOne 8 = .ok (.iload_n 1, 1) := by decide +kernel
theorem dX9_readOne_9 : decode cX9_readOne 9 = .ok (.bipush 7, 2) := by decide +kernel
theorem dX9_readOne_11 : decode cX9_readOne 11 = .ok (.if_icmp .ne 9, 3) := by decide +kernel
theorem dX9_readOne_14 : decode cX9_readOne 14 = .ok (.aload_n 0, 1) := by decide +kernel
theorem dX9_readOne_15 : decode cX9_readOne 15 = .ok (.iconst 5, 1) := by decide +kernel
theorem dX9_readOne_16 : decode cX9_readOne 16 = .ok (.invokevirtual 97, 3) := by decide +kernel
theorem dX9_readOne_19 : decode cX9_readOne 19 = .ok (.return_, 1) := by decide +kernel
theorem dX9_readOne_20 : decode cX9_readOne 20 = .ok (.aload_n 0, 1) := by decide +kernel
theorem dX9_readOne_21 : decode cX9_readOne 21 = .ok (.invokevirtual 105, 3) := by decide +kernel
theorem dX9_readOne_24 : decode cX9_readOne 24 = .ok (.aload_n 0, 1) := by decide +kernel
theorem dX9_readOne_25 : decode cX9_readOne 25 = .ok (.invokevirtual 111, 3) := by decide +kernel
theorem dX9_readOne_28 : decode cX9_readOne 28 = .ok (.iconst 4, 1) := by decide +kernel
theorem dX9_readOne_29 : decode cX9_readOne 29 = .ok (.isub, 1) := by decide +kernel
theorem dX9_readOne_30 : decode cX9_readOne 30 = .ok (.istore_n 2, 1) := by decide +kernel
theorem dX9_readOne_31 : decode cX9_readOne 31 = .ok (.iload_n 2, 1) := by decide +kernel
theorem dX9_readOne_32 : decode cX9_readOne 32 = .ok (.ifCond .ge 9, 3) := by decide +kernel
theorem dX9_readOne_35 : decode cX9_readOne 35 = .ok (.aload_n 0, 1) := by decide +kernel
theorem dX9_readOne_36 : decode cX9_readOne 36 = .ok (.iconst 2, 1) := by decide +kernel
theorem dX9_readOne_37 : decode cX9_readOne 37 = .ok (.invokevirtual 97, 3) := by decide +kernel
theorem dX9_readOne_40 : decode cX9_readOne 40 = .ok (.return_, 1) := by decide +kernel
theorem dX9_readOne_41 : decode cX9_readOne 41 = .ok (.aload_n 0, 1) := by decide +kernel
theorem dX9_readOne_42 : decode cX9_readOne 42 = .ok (.invokevirtual 105, 3) := by decide +kernel
theorem dX9_readOne_45 : decode cX9_readOne 45 = .ok (.bipush 6, 2) := by decide +kernel
theorem dX9_readOne_47 : decode cX9_readOne 47 = .ok (.iload_n 1, 1) := by decide +kernel
theorem dX9_readOne_48 : decode cX9_readOne 48 = .ok (.imul, 1) := by decide +kernel
theorem dX9_readOne_49 : decode cX9_readOne 49 = .ok (.istore_n 3, 1) := by decide +kernel
theorem dX9_readOne_50 : decode cX9_readOne 50 = .ok (.aload_n 0, 1) := by decide +kernel
theorem dX9_readOne_51 : decode cX9_readOne 51 = .ok (.getfield 13, 3) := by decide +kernel
theorem dX9_readOne_54 : decode cX9_readOne 54 = .ok (.iload_n 3, 1) := by decide +kernel
theorem dX9_readOne_55 : decode cX9_readOne 55 = .ok (.iload_n 2, 1) := by decide +kernel
theorem dX9_readOne_56 : decode cX9_readOne 56 = .ok (.iastore, 1) := by decide +kernel
theorem dX9_readOne_57 : decode cX9_readOne 57 = .ok (.aload_n 0, 1) := by decide +kernel
theorem dX9_readOne_58 : decode cX9_readOne 58 = .ok (.getfield 13, 3) := by decide +kernel
theorem dX9_readOne_61 : decode cX9_readOne 61 = .ok (.iload_n 3, 1) := by decide +kernel
theorem dX9_readOne_62 : decode cX9_readOne 62 = .ok (.iconst 5, 1) := by decide +kernel
theorem dX9_readOne_63 : decode cX9_readOne 63 = .ok (.iadd, 1) := by decide +kernel
theorem dX9_readOne_64 : decode cX9_readOne 64 = .ok (.bipush (-4), 2) := by decide +kernel
theorem dX9_readOne_66 : decode cX9_readOne 66 = .ok (.iastore, 1) := by decide +kernel
theorem dX9_readOne_67 : decode cX9_readOne 67 = .ok (.iload_n 2, 1) := by decide +kernel
theorem dX9_readOne_68 : decode cX9_readOne 68 = .ok (.iconst 4, 1) := by decide +kernel
theorem dX9_readOne_69 : decode cX9_readOne 69 = .ok (.if_icmp .ne 39, 3) := by decide +kernel
theorem dX9_readOne_72 : decode cX9_readOne 72 = .ok (.aload_n 0, 1) := by decide +kernel
theorem dX9_readOne_73 : decode cX9_readOne 73 = .ok (.getfield 13, 3) := by decide +kernel
theorem dX9_readOne_76 : decode cX9_readOne 76 = .ok (.iload_n 3, 1) := by decide +kernel
theorem dX9_readOne_77 : decode cX9_readOne 77 = .ok (.iconst 5, 1) := by decide +kernel
theorem dX9_readOne_78 : decode cX9_readOne 78 = .ok (.iadd, 1) := by decide +kernel
theorem dX9_readOne_79 : decode cX9_readOne 79 = .ok (.aload_n 0, 1) := by decide +kernel
theorem dX9_readOne_80 : decode cX9_readOne 80 = .ok (.invokevirtual 115, 3) := by decide +kernel
theorem dX9_readOne_83 : decode cX9_readOne 83 = .ok (.iastore, 1) := by decide +kernel
theorem dX9_readOne_84 : decode cX9_readOne 84 = .ok (.aload_n 0, 1) := by decide +kernel
theorem dX9_readOne_85 : decode cX9_readOne 85 = .ok (.getfield 67, 3) := by decide +kernel
theorem dX9_readOne_88 : decode cX9_readOne 88 = .ok (.ifCond .ne 16, 3) := by decide +kernel
theorem dX9_readOne_91 : decode cX9_readOne 91 = .ok (.aload_n 0, 1) := by decide +kernel
theorem dX9_readOne_92 : decode cX9_readOne 92 = .ok (.getfield 86, 3) := by decide +kernel
theorem dX9_readOne_95 : decode cX9_readOne 95 = .ok (.iload_n 1, 1) := by decide +kernel
theorem dX9_readOne_96 : decode cX9_readOne 96 = .ok (.if_icmp .ne 8, 3) := by decide +kernel
theorem dX9_readOne_99 : decode cX9_readOne 99 = .ok (.aload_n 0, 1) := by decide +kernel
theorem dX9_readOne_100 : decode cX9_readOne 100 = .ok (.iconst 4, 1) := by decide +kernel
theorem dX9_readOne_101 : decode cX9_readOne 101 = .ok (.invokevirtual 97, 3) := by decide +kernel
theorem dX9_readOne_104 : decode cX9_readOne 104 = .ok (.aload_n 0, 1) := by decide +kernel
theorem dX9_readOne_105 : decode cX9_readOne 105 = .ok (.invokevirtual 105, 3) := by decide +kernel
theorem dX9_readOne_108 : decode cX9_readOne 108 = .ok (.aload_n 0, 1) := by decide +kernel
theorem dX9_readOne_109 : decode cX9_readOne 109 = .ok (.getfield 13, 3) := by decide +kernel
theorem dX9_readOne_112 : decode cX9_readOne 112 = .ok (.iload_n 3, 1) := by decide +kernel
theorem dX9_readOne_113 : decode cX9_readOne 113 = .ok (.iconst 1, 1) := by decide +kernel
theorem dX9_readOne_114 : decode cX9_readOne 114 = .ok (.iadd, 1) := by decide +kernel
theorem dX9_readOne_115 : decode cX9_readOne 115 = .ok (.aload_n 0, 1) := by decide +kernel
theorem dX9_readOne_116 : decode cX9_readOne 116 = .ok (.iconst 0, 1) := by decide +kernel
theorem dX9_readOne_117 : decode cX9_readOne 117 = .ok (.bipush 60, 2) := by decide +kernel
theorem dX9_readOne_119 : decode cX9_readOne 119 = .ok (.invokevirtual 118, 3) := by decide +kernel
theorem dX9_readOne_122 : decode cX9_readOne 122 = .ok (.iastore, 1) := by decide +kernel
theorem dX9_readOne_123 : decode cX9_readOne 123 = .ok (.aload_n 0, 1) := by decide +kernel
theorem dX9_readOne_124 : decode cX9_readOne 124 = .ok (.getfield 13, 3) := by decide +kernel
theorem dX9_readOne_127 : decode cX9_readOne 127 = .ok (.iload_n 3, 1) := by decide +kernel
theorem dX9_readOne_128 : decode cX9_readOne 128 = .ok (.iconst 2, 1) := by decide +kernel
theorem dX9_readOne_129 : decode cX9_readOne 129 = .ok (.iadd, 1) := by decide +kernel
theorem dX9_readOne_130 : decode cX9_readOne 130 = .ok (.aload_n 0, 1) := by decide +kernel
theorem dX9_readOne_131 : decode cX9_readOne 131 = .ok (.iconst 1, 1) := by decide +kernel
theorem dX9_readOne_132 : decode cX9_readOne 132 = .ok (.bipush 9, 2) := by decide +kernel
theorem dX9_readOne_134 : decode cX9_readOne 134 = .ok (.invokevirtual 118, 3) := by decide +kernel
theorem dX9_readOne_137 : decode cX9_readOne 137 = .ok (.iastore, 1) := by decide +kernel
theorem dX9_readOne_138 : decode cX9_readOne 138 = .ok (.aload_n 0, 1) := by decide +kernel
theorem dX9_readOne_139 : decode cX9_readOne 139 = .ok (.getfield 13, 3) := by decide +kernel
theorem dX9_readOne_142 : decode cX9_readOne 142 = .ok (.iload_n 3, 1) := by decide +kernel
theorem dX9_readOne_143 : decode cX9_readOne 143 = .ok (.iconst 3, 1) := by decide +kernel
theorem dX9_readOne_144 : decode cX9_readOne 144 = .ok (.iadd, 1) := by decide +kernel
theorem dX9_readOne_145 : decode cX9_readOne 145 = .ok (.aload_n 0, 1) := by decide +kernel
theorem dX9_readOne_146 : decode cX9_readOne 146 = .ok (.iconst 0, 1) := by decide +kernel
theorem dX9_readOne_147 : decode cX9_readOne 147 = .ok (.bipush 9, 2) := by decide +kernel
theorem dX9_readOne_149 : decode cX9_readOne 149 = .ok (.invokevirtual 118, 3) := by decide +kernel
theorem dX9_readOne_152 : decode cX9_readOne 152 = .ok (.iastore, 1) := by decide +kernel
theorem dX9_readOne_153 : decode cX9_readOne 153 = .ok (.aload_n 0, 1) := by decide +kernel
theorem dX9_readOne_154 : decode cX9_readOne 154 = .ok (.getfield 13, 3) := by decide +kernel
theorem dX9_readOne_157 : decode cX9_readOne 157 = .ok (.iload_n 3, 1) := by decide +kernel
theorem dX9_readOne_158 : decode cX9_readOne 158 = .ok (.iconst 4, 1) := by decide +kernel
theorem dX9_readOne_159 : decode cX9_readOne 159 = .ok (.iadd, 1) := by decide +kernel
theorem dX9_readOne_160 : decode cX9_readOne 160 = .ok (.aload_n 0, 1) := by decide +kernel
theorem dX9_readOne_161 : decode cX9_readOne 161 = .ok (.iconst 0, 1) := by decide +kernel
theorem dX9_readOne_162 : decode cX9_readOne 162 = .ok (.bipush 50, 2) := by decide +kernel
theorem dX9_readOne_164 : decode cX9_readOne 164 = .ok (.invokevirtual 118, 3) := by decide +kernel
theorem dX9_readOne_167 : decode cX9_readOne 167 = .ok (.iastore, 1) := by decide +kernel
theorem dX9_readOne_168 : decode cX9_readOne 168 = .ok (.aload_n 0, 1) := by decide +kernel
theorem dX9_readOne_169 : decode cX9_readOne 169 = .ok (.getfield 13, 3) := by decide +kernel
theorem dX9_readOne_172 : decode cX9_readOne 172 = .ok (.bipush 93, 2) := by decide +kernel
theorem dX9_readOne_174 : decode cX9_readOne 174 = .ok (.dup2, 1) := by decide +kernel
theorem dX9_readOne_175 : decode cX9_readOne 175 = .ok (.iaload, 1) := by decide +kernel
theorem dX9_readOne_176 : decode cX9_readOne 176 = .ok (.iconst 1, 1) := by decide +kernel
theorem dX9_readOne_177 : decode cX9_readOne 177 = .ok (.iadd, 1) := by decide +kernel
theorem dX9_readOne_178 : decode cX9_readOne 178 = .ok (.iastore, 1) := by decide +kernel
theorem dX9_readOne_179 : decode cX9_readOne 179 = .ok (.return_, 1) := by decide +kernel
set_option maxRecDepth 20000 in
theorem ggX9_readDebt_X9_step : GoodIn wsX9_readDebt wsX9_step := goodIn_r _ [7, 1, 8, 9, 10, 11, 12, 13, 14, 15, 16, 17, 18, 6, 19, 20, 21, 22, 23, 24, 25, 26, 27, 28, 29, 43, 44, 45, 46, 47, 48, 49, 50, 51, 52, 53, 54, 55, 56, 57, 58, 59, 60, 61, 62, 63, 64, 65, 66, 67, 68, 69, 70, 71, 72, 73, 74, 75, 76] (by decide +kernel) (by decide +kernel)
set_option maxRecDepth 20000 in
theorem gX9_readDebt_X9_step : GoodIn wsX9_readDebt (wsV RX9 105 RX9 yX9_step wsX9_step) := goodIn_app (goodIn_of _ (by decide +kernel)) ggX9_readDebt_X9_step
set_option maxRecDepth 20000 in
theorem ggX9_readDebt_X9_oneHere : GoodIn wsX9_readDebt wsX9_oneHere := goodIn_r _ [33, 34, 35, 36, 37, 6, 38, 1, 11, 10, 25, 26, 27, 28, 9, 29, 22, 23, 24, 43, 44, 45, 46, 47, 48, 49, 50, 51, 52, 53, 54, 55, 56, 57, 58, 59, 60, 61, 62, 63, 64, 65, 66, 67, 68, 69, 70, 71, 72, 73, 74, 75, 76] (by decide +kernel) (by decide +kernel)
set_option maxRecDepth 20000 in
theorem gX9_readDebt_X9_oneHere : GoodIn wsX9_readDebt (wsV RX9 115 RX9 yX9_oneHere wsX9_oneHere) := goodIn_app (goodIn_of _ (by decide +kernel)) ggX9_readDebt_X9_oneHere
set_option maxRecDepth 20000 in
theorem ggX9_readDebt_X9_fails : GoodIn wsX9_readDebt wsX9_fails := goodIn_r _ [28, 1, 9, 29, 43, 44, 45, 46, 47, 48, 49, 50, 51, 52, 53, 54, 55, 56, 57, 58, 59, 60, 61, 62, 63, 64, 65, 66, 67, 68, 69, 70, 71, 72, 73, 74, 75, 76] (by decide +kernel) (by decide +kernel)
set_option maxRecDepth 20000 in
theorem gX9_readDebt_X9_fails : GoodIn wsX9_readDebt (wsV RX9 97 RX9 yX9_fails wsX9_fails) := goodIn_app (goodIn_of _ (by decide +kernel)) ggX9_readDebt_X9_fails
set_option maxRecDepth 20000 in
theorem ggX9_readDebt_X9_number : GoodIn wsX9_readDebt wsX9_number := goodIn_r _ [42, 35, 36, 37, 6, 38, 1, 11, 10, 25, 26, 27, 28, 9, 29, 22, 23, 24, 3, 4, 5, 7, 8, 12, 13, 14, 15, 16, 17, 18, 19, 20, 21, 43, 44, 45, 46, 47, 48, 49, 50, 51, 52, 53, 54, 55, 56, 57, 58, 59, 60, 61, 62, 63, 64, 65, 66, 67, 68, 69, 70, 71, 72, 73, 74, 75, 76] (by decide +kernel) (by decide +kernel)
set_option maxRecDepth 20000 in
theorem gX9_readDebt_X9_number : GoodIn wsX9_readDebt (wsV RX9 118 RX9 yX9_number wsX9_number) := goodIn_app (goodIn_of _ (by decide +kernel)) ggX9_readDebt_X9_number
theorem dX9_readDebt_0 : decode cX9_readDebt 0 = .ok (.aload_n 0, 1) := by decide +kernel
theorem dX9_readDebt_1 : decode cX9_readDebt 1 = .ok (.invokevirtual 105, 3) := by decide +kernel
theorem dX9_readDebt_4 : decode cX9_readDebt 4 = .ok (.aload_n 0, 1) := by decide +kernel
theorem dX9_readDebt_5 : decode cX9_readDebt 5 = .ok (.invokevirtual 115, 3) := by decide +kernel
theorem dX9_readDebt_8 : decode cX9_readDebt 8 = .ok (.istore_n 1, 1) := by decide +kernel
theorem dX9_readDebt_9 : decode cX9_readDebt 9 = .ok (.aload_n 0, 1) := by decide +kernel
theorem dX9_readDebt_10 : decode cX9_readDebt 10 = .ok (.invokevirtual 105, 3) := by decide +kernel
theorem dX9_readDebt_13 : decode cX9_readDebt 13 = .ok (.aload_n 0, 1) := by decide +kernel
theorem dX9_readDebt_14 : decode cX9_readDebt 14 = .ok (.invokevirtual 115, 3) := by decide +kernel
theorem dX9_readDebt_17 : decode cX9_readDebt 17 = .ok (.istore_n 2, 1) := by decide +kernel
theorem dX9_readDebt_18 : decode cX9_readDebt 18 = .ok (.aload_n 0, 1) := by decide +kernel
theorem dX9_readDebt_19 : decode cX9_readDebt 19 = .ok (.getfield 67, 3) := by decide +kernel
theorem dX9_readDebt_22 : decode cX9_readDebt 22 = .ok (.ifCond .ne 30, 3) := by decide +kernel
theorem dX9_readDebt_25 : decode cX9_readDebt 25 = .ok (.iload_n 1, 1) := by decide +kernel
theorem dX9_readDebt_26 : decode cX9_readDebt 26 = .ok (.iload_n 2, 1) := by decide +kernel
theorem dX9_readDebt_27 : decode cX9_readDebt 27 = .ok (.if_icmp .eq 20, 3) := by decide +kernel
theorem dX9_readDebt_30 : decode cX9_readDebt 30 = .ok (.aload_n 0, 1) := by decide +kernel
theorem dX9_readDebt_31 : decode cX9_readDebt 31 = .ok (.getfield 13, 3) := by decide +kernel
theorem dX9_readDebt_34 : decode cX9_readDebt 34 = .ok (.bipush 42, 2) := by decide +kernel
theorem dX9_readDebt_36 : decode cX9_readDebt 36 = .ok (.bipush 7, 2) := by decide +kernel
theorem dX9_readDebt_38 : decode cX9_readDebt 38 = .ok (.iload_n 1, 1) := by decide +kernel
theorem dX9_readDebt_39 : decode cX9_readDebt 39 = .ok (.imul, 1) := by decide +kernel
theorem dX9_readDebt_40 : decode cX9_readDebt 40 = .ok (.iadd, 1) := by decide +kernel
theorem dX9_readDebt_41 : decode cX9_readDebt 41 = .ok (.iload_n 2, 1) := by decide +kernel
theorem dX9_readDebt_42 : decode cX9_readDebt 42 = .ok (.iadd, 1) := by decide +kernel
theorem dX9_readDebt_43 : decode cX9_readDebt 43 = .ok (.iaload, 1) := by decide +kernel
theorem dX9_readDebt_44 : decode cX9_readDebt 44 = .ok (.ifCond .le 8, 3) := by decide +kernel
theorem dX9_readDebt_47 : decode cX9_readDebt 47 = .ok (.aload_n 0, 1) := by decide +kernel
theorem dX9_readDebt_48 : decode cX9_readDebt 48 = .ok (.iconst 4, 1) := by decide +kernel
theorem dX9_readDebt_49 : decode cX9_readDebt 49 = .ok (.invokevirtual 97, 3) := by decide +kernel
theorem dX9_readDebt_52 : decode cX9_readDebt 52 = .ok (.aload_n 0, 1) := by decide +kernel
theorem dX9_readDebt_53 : decode cX9_readDebt 53 = .ok (.invokevirtual 105, 3) := by decide +kernel
theorem dX9_readDebt_56 : decode cX9_readDebt 56 = .ok (.aload_n 0, 1) := by decide +kernel
theorem dX9_readDebt_57 : decode cX9_readDebt 57 = .ok (.iconst 1, 1) := by decide +kernel
theorem dX9_readDebt_58 : decode cX9_readDebt 58 = .ok (.bipush 99, 2) := by decide +kernel
theorem dX9_readDebt_60 : decode cX9_readDebt 60 = .ok (.invokevirtual 118, 3) := by decide +kernel
theorem dX9_readDebt_63 : decode cX9_readDebt 63 = .ok (.istore_n 3, 1) := by decide +kernel
theorem dX9_readDebt_64 : decode cX9_readDebt 64 = .ok (.aload_n 0, 1) := by decide +kernel
theorem dX9_readDebt_65 : decode cX9_readDebt 65 = .ok (.getfield 67, 3) := by decide +kernel
theorem dX9_readDebt_68 : decode cX9_readDebt 68 = .ok (.ifCond .ne 18, 3) := by decide +kernel
theorem dX9_readDebt_71 : decode cX9_readDebt 71 = .ok (.aload_n 0, 1) := by decide +kernel
theorem dX9_readDebt_72 : decode cX9_readDebt 72 = .ok (.getfield 13, 3) := by decide +kernel
theorem dX9_readDebt_75 : decode cX9_readDebt 75 = .ok (.bipush 42, 2) := by decide +kernel
theorem dX9_readDebt_77 : decode cX9_readDebt 77 = .ok (.bipush 7, 2) := by decide +kernel
theorem dX9_readDebt_79 : decode cX9_readDebt 79 = .ok (.iload_n 1, 1) := by decide +kernel
theorem dX9_readDebt_80 : decode cX9_readDebt 80 = .ok (.imul, 1) := by decide +kernel
theorem dX9_readDebt_81 : decode cX9_readDebt 81 = .ok (.iadd, 1) := by decide +kernel
theorem dX9_readDebt_82 : decode cX9_readDebt 82 = .ok (.iload_n 2, 1) := by decide +kernel
theorem dX9_readDebt_83 : decode cX9_readDebt 83 = .ok (.iadd, 1) := by decide +kernel
theorem dX9_readDebt_84 : decode cX9_readDebt 84 = .ok (.iload_n 3, 1) := by decide +kernel
theorem dX9_readDebt_85 : decode cX9_readDebt 85 = .ok (.iastore, 1) := by decide +kernel
theorem dX9_readDebt_86 : decode cX9_readDebt 86 = .ok (.return_, 1) := by decide +kernel
set_option maxRecDepth 20000 in
theorem ggX9_readLine_X9_nameHere : GoodIn wsX9_readLine wsX9_nameHere := goodIn_r _ [11, 6, 12, 13, 14, 15, 16, 17, 18, 10, 19, 20, 21, 60, 61, 62, 63, 64, 65, 66, 67, 68, 69, 70, 71, 72, 73, 74, 75, 76, 77, 78, 79, 80, 81, 82, 83, 84, 85, 86, 87, 88, 89, 90, 91, 92, 93] (by decide +kernel) (by decide +kernel)
set_option maxRecDepth 20000 in
theorem gX9_readLine_X9_nameHere : GoodIn wsX9_readLine (wsV RX9 111 RX9 yX9_nameHere wsX9_nameHere) := goodIn_app (goodIn_of _ (by decide +kernel)) ggX9_readLine_X9_nameHere
set_option maxRecDepth 20000 in
theorem ggX9_readLine_X9_in : GoodIn wsX9_readLine wsX9_in := goodIn_r _ [24] (by decide +kernel) (by decide +kernel)
set_option maxRecDepth 20000 in
theorem gX9_readLine_X9_in : GoodIn wsX9_readLine (va_wsS RX9 63 yX9_in wsX9_in) := goodIn_app (goodIn_of _ (by decide +kernel)) ggX9_readLine_X9_in
set_option maxRecDepth 20000 in
theorem ggX9_readLine_X9_fails : GoodIn wsX9_readLine wsX9_fails := goodIn_r _ [28, 5, 13, 29, 60, 61, 62, 63, 64, 65, 66, 67, 68, 69, 70, 71, 72, 73, 74, 75, 76, 77, 78, 79, 80, 81, 82, 83, 84, 85, 86, 87, 88, 89, 90, 91, 92, 93] (by decide +kernel) (by decide +kernel)
set_option maxRecDepth 20000 in
theorem gX9_readLine_X9_fails : GoodIn wsX9_readLine (wsV RX9 97 RX9 yX9_fails wsX9_fails) := goodIn_app (goodIn_of _ (by decide +kernel)) ggX9_readLine_X9_fails
set_option maxRecDepth 20000 in
theorem ggX9_readLine_X9_readOne : GoodIn wsX9_readLine wsX9_readOne := goodIn_r _ [33, 3, 5, 34, 25, 26, 27, 10, 28, 13, 29, 35, 36, 37, 38, 12, 6, 39, 40, 41, 42, 16, 17, 18, 19, 20, 21, 22, 23, 24, 7, 8, 9, 11, 14, 15, 43, 44, 45, 46, 47, 48, 49, 50, 51, 52, 53, 54, 55, 60, 61, 62, 63, 64, 65, 66, 67, 68, 69, 70, 71, 72, 73, 74, 75, 76, 77, 78, 79, 80, 81, 82, 83, 84, 85, 86, 87, 88, 89, 90, 91, 92, 93] (by decide +kernel) (by decide +kernel)
set_option maxRecDepth 20000 in
theorem gX9_readLine_X9_readOne : GoodIn wsX9_readLine (wsV RX9 123 RX9 yX9_readOne wsX9_readOne) := goodIn_app (goodIn_of _ (by decide +kernel)) ggX9_readLine_X9_readOne
set_option maxRecDepth 20000 in
theorem ggX9_readLine_X9_readDebt : GoodIn wsX9_readLine wsX9_readDebt := goodIn_r _ [59, 5, 3, 35, 36, 37, 10, 38, 12, 13, 34, 6, 39, 40, 41, 42, 16, 17, 18, 19, 20, 21, 22, 23, 24, 25, 26, 27, 28, 29, 43, 44, 45, 46, 47, 48, 49, 50, 51, 52, 53, 54, 55, 60, 61, 62, 63, 64, 65, 66, 67, 68, 69, 70, 71, 72, 73, 74, 75, 76, 77, 78, 79, 80, 81, 82, 83, 84, 85, 86, 87, 88, 89, 90, 91, 92, 93] (by decide +kernel) (by decide +kernel)
set_option maxRecDepth 20000 in
theorem gX9_readLine_X9_readDebt : GoodIn wsX9_readLine (wsV RX9 126 RX9 yX9_readDebt wsX9_readDebt) := goodIn_app (goodIn_of _ (by decide +kernel)) ggX9_readLine_X9_readDebt
set_option maxRecDepth 20000 in
theorem ggX9_readLine_X9_step : GoodIn wsX9_readLine wsX9_step := goodIn_r _ [38, 5, 12, 13, 34, 6, 39, 40, 41, 42, 16, 17, 18, 10, 19, 20, 21, 22, 23, 24, 25, 26, 27, 28, 29, 60, 61, 62, 63, 64, 65, 66, 67, 68, 69, 70, 71, 72, 73, 74, 75, 76, 77, 78, 79, 80, 81, 82, 83, 84, 85, 86, 87, 88, 89, 90, 91, 92, 93] (by decide +kernel) (by decide +kernel)
set_option maxRecDepth 20000 in
theorem gX9_readLine_X9_step : GoodIn wsX9_readLine (wsV RX9 105 RX9 yX9_step wsX9_step) := goodIn_app (goodIn_of _ (by decide +kernel)) ggX9_readLine_X9_step
set_option maxRecDepth 20000 in
theorem ggX9_readLine_X9_number : GoodIn wsX9_readLine wsX9_number := goodIn_r _ [55, 48, 49, 50, 10, 51, 5, 6, 34, 25, 26, 27, 28, 13, 29, 22, 23, 24, 35, 36, 37, 38, 12, 39, 40, 41, 42, 16, 17, 18, 19, 20, 21, 60, 61, 62, 63, 64, 65, 66, 67, 68, 69, 70, 71, 72, 73, 74, 75, 76, 77, 78, 79, 80, 81, 82, 83, 84, 85, 86, 87, 88, 89, 90, 91, 92, 93] (by decide +kernel) (by decide +kernel)
set_option maxRecDepth 20000 in
theorem gX9_readLine_X9_number : GoodIn wsX9_readLine (wsV RX9 118 RX9 yX9_number wsX9_number) := goodIn_app (goodIn_of _ (by decide +kernel)) ggX9_readLine_X9_number
theorem dX9_readLine_0 : decode cX9_readLine 0 = .ok (.aload_n 0, 1) := by decide +kernel
theorem dX9_readLine_1 : decode cX9_readLine 1 = .ok (.invokevirtual 111, 3) := by decide +kernel
theorem dX9_readLine_4 : decode cX9_readLine 4 = .ok (.istore_n 1, 1) := by decide +kernel
theorem dX9_readLine_5 : decode cX9_readLine 5 = .ok (.iload_n 1, 1) := by decide +kernel
theorem dX9_readLine_6 : decode cX9_readLine 6 = .ok (.i2l, 1) := by decide +kernel
theorem dX9_readLine_7 : decode cX9_readLine 7 = .ok (.lconst 0, 1) := by decide +kernel
theorem dX9_readLine_8 : decode cX9_readLine 8 = .ok (.ldc2_w 121, 3) := by decide +kernel
theorem dX9_readLine_11 : decode cX9_readLine 11 = .ok (.invokestatic 63, 3) := by decide +kernel
theorem dX9_readLine_14 : decode cX9_readLine 14 = .ok (.ifCond .ne 9, 3) := by decide +kernel
theorem dX9_readLine_17 : decode cX9_readLine 17 = .ok (.aload_n 0, 1) := by decide +kernel
theorem dX9_readLine_18 : decode cX9_readLine 18 = .ok (.iconst 2, 1) := by decide +kernel
theorem dX9_readLine_19 : decode cX9_readLine 19 = .ok (.invokevirtual 97, 3) := by decide +kernel
theorem dX9_readLine_22 : decode cX9_readLine 22 = .ok (.return_, 1) := by decide +kernel
theorem dX9_readLine_23 : decode cX9_readLine 23 = .ok (.iload_n 1, 1) := by decide +kernel
theorem dX9_readLine_24 : decode cX9_readLine 24 = .ok (.iconst 2, 1) := by decide +kernel
theorem dX9_readLine_25 : decode cX9_readLine 25 = .ok (.if_icmp .ne 10, 3) := by decide +kernel
theorem dX9_readLine_28 : decode cX9_readLine 28 = .ok (.aload_n 0, 1) := by decide +kernel
theorem dX9_readLine_29 : decode cX9_readLine 29 = .ok (.invokevirtual 123, 3) := by decide +kernel
theorem dX9_readLine_32 : decode cX9_readLine 32 = .ok (.goto 92, 3) := by decide +kernel
theorem dX9_readLine_35 : decode cX9_readLine 35 = .ok (.iload_n 1, 1) := by decide +kernel
theorem dX9_readLine_36 : decode cX9_readLine 36 = .ok (.iconst 3, 1) := by decide +kernel
theorem dX9_readLine_37 : decode cX9_readLine 37 = .ok (.if_icmp .ne 10, 3) := by decide +kernel
theorem dX9_readLine_40 : decode cX9_readLine 40 = .ok (.aload_n 0, 1) := by decide +kernel
theorem dX9_readLine_41 : decode cX9_readLine 41 = .ok (.invokevirtual 126, 3) := by decide +kernel
theorem dX9_readLine_44 : decode cX9_readLine 44 = .ok (.goto 80, 3) := by decide +kernel
theorem dX9_readLine_47 : decode cX9_readLine 47 = .ok (.iload_n 1, 1) := by decide +kernel
theorem dX9_readLine_48 : decode cX9_readLine 48 = .ok (.ifCond .ne 40, 3) := by decide +kernel
theorem dX9_readLine_51 : decode cX9_readLine 51 = .ok (.aload_n 0, 1) := by decide +kernel
theorem dX9_readLine_52 : decode cX9_readLine 52 = .ok (.getfield 129, 3) := by decide +kernel
theorem dX9_readLine_55 : decode cX9_readLine 55 = .ok (.ifCond .eq 8, 3) := by decide +kernel
theorem dX9_readLine_58 : decode cX9_readLine 58 = .ok (.aload_n 0, 1) := by decide +kernel
theorem dX9_readLine_59 : decode cX9_readLine 59 = .ok (.iconst 4, 1) := by decide +kernel
theorem dX9_readLine_60 : decode cX9_readLine 60 = .ok (.invokevirtual 97, 3) := by decide +kernel
theorem dX9_readLine_63 : decode cX9_readLine 63 = .ok (.aload_n 0, 1) := by decide +kernel
theorem dX9_readLine_64 : decode cX9_readLine 64 = .ok (.iconst 1, 1) := by decide +kernel
theorem dX9_readLine_65 : decode cX9_readLine 65 = .ok (.putfield 129, 3) := by decide +kernel
theorem dX9_readLine_68 : decode cX9_readLine 68 = .ok (.aload_n 0, 1) := by decide +kernel
theorem dX9_readLine_69 : decode cX9_readLine 69 = .ok (.invokevirtual 105, 3) := by decide +kernel
theorem dX9_readLine_72 : decode cX9_readLine 72 = .ok (.aload_n 0, 1) := by decide +kernel
theorem dX9_readLine_73 : decode cX9_readLine 73 = .ok (.getfield 13, 3) := by decide +kernel
theorem dX9_readLine_76 : decode cX9_readLine 76 = .ok (.bipush 91, 2) := by decide +kernel
theorem dX9_readLine_78 : decode cX9_readLine 78 = .ok (.aload_n 0, 1) := by decide +kernel
theorem dX9_readLine_79 : decode cX9_readLine 79 = .ok (.iconst 0, 1) := by decide +kernel
theorem dX9_readLine_80 : decode cX9_readLine 80 = .ok (.iconst 1, 1) := by decide +kernel
theorem dX9_readLine_81 : decode cX9_readLine 81 = .ok (.invokevirtual 118, 3) := by decide +kernel
theorem dX9_readLine_84 : decode cX9_readLine 84 = .ok (.iastore, 1) := by decide +kernel
theorem dX9_readLine_85 : decode cX9_readLine 85 = .ok (.goto 39, 3) := by decide +kernel
theorem dX9_readLine_88 : decode cX9_readLine 88 = .ok (.aload_n 0, 1) := by decide +kernel
theorem dX9_readLine_89 : decode cX9_readLine 89 = .ok (.getfield 133, 3) := by decide +kernel
theorem dX9_readLine_92 : decode cX9_readLine 92 = .ok (.ifCond .eq 8, 3) := by decide +kernel
theorem dX9_readLine_95 : decode cX9_readLine 95 = .ok (.aload_n 0, 1) := by decide +kernel
theorem dX9_readLine_96 : decode cX9_readLine 96 = .ok (.iconst 4, 1) := by decide +kernel
theorem dX9_readLine_97 : decode cX9_readLine 97 = .ok (.invokevirtual 97, 3) := by decide +kernel
theorem dX9_readLine_100 : decode cX9_readLine 100 = .ok (.aload_n 0, 1) := by decide +kernel
theorem dX9_readLine_101 : decode cX9_readLine 101 = .ok (.iconst 1, 1) := by decide +kernel
theorem dX9_readLine_102 : decode cX9_readLine 102 = .ok (.putfield 133, 3) := by decide +kernel
theorem dX9_readLine_105 : decode cX9_readLine 105 = .ok (.aload_n 0, 1) := by decide +kernel
theorem dX9_readLine_106 : decode cX9_readLine 106 = .ok (.invokevirtual 105, 3) := by decide +kernel
theorem dX9_readLine_109 : decode cX9_readLine 109 = .ok (.aload_n 0, 1) := by decide +kernel
theorem dX9_readLine_110 : decode cX9_readLine 110 = .ok (.getfield 13, 3) := by decide +kernel
theorem dX9_readLine_113 : decode cX9_readLine 113 = .ok (.bipush 92, 2) := by decide +kernel
theorem dX9_readLine_115 : decode cX9_readLine 115 = .ok (.aload_n 0, 1) := by decide +kernel
theorem dX9_readLine_116 : decode cX9_readLine 116 = .ok (.iconst 1, 1) := by decide +kernel
theorem dX9_readLine_117 : decode cX9_readLine 117 = .ok (.iconst 2, 1) := by decide +kernel
theorem dX9_readLine_118 : decode cX9_readLine 118 = .ok (.invokevirtual 118, 3) := by decide +kernel
theorem dX9_readLine_121 : decode cX9_readLine 121 = .ok (.iconst 1, 1) := by decide +kernel
theorem dX9_readLine_122 : decode cX9_readLine 122 = .ok (.isub, 1) := by decide +kernel
theorem dX9_readLine_123 : decode cX9_readLine 123 = .ok (.iastore, 1) := by decide +kernel
theorem dX9_readLine_124 : decode cX9_readLine 124 = .ok (.aload_n 0, 1) := by decide +kernel
theorem dX9_readLine_125 : decode cX9_readLine 125 = .ok (.getfield 67, 3) := by decide +kernel
theorem dX9_readLine_128 : decode cX9_readLine 128 = .ok (.ifCond .ne 16, 3) := by decide +kernel
theorem dX9_readLine_131 : decode cX9_readLine 131 = .ok (.aload_n 0, 1) := by decide +kernel
theorem dX9_readLine_132 : decode cX9_readLine 132 = .ok (.getfield 76, 3) := by decide +kernel
theorem dX9_readLine_135 : decode cX9_readLine 135 = .ok (.iconst 3, 1) := by decide +kernel
theorem dX9_readLine_136 : decode cX9_readLine 136 = .ok (.if_icmp .eq 8, 3) := by decide +kernel
theorem dX9_readLine_139 : decode cX9_readLine 139 = .ok (.aload_n 0, 1) := by decide +kernel
theorem dX9_readLine_140 : decode cX9_readLine 140 = .ok (.iconst 2, 1) := by decide +kernel
theorem dX9_readLine_141 : decode cX9_readLine 141 = .ok (.invokevirtual 97, 3) := by decide +kernel
theorem dX9_readLine_144 : decode cX9_readLine 144 = .ok (.aload_n 0, 1) := by decide +kernel
theorem dX9_readLine_145 : decode cX9_readLine 145 = .ok (.invokevirtual 105, 3) := by decide +kernel
theorem dX9_readLine_148 : decode cX9_readLine 148 = .ok (.return_, 1) := by decide +kernel
set_option maxRecDepth 20000 in
theorem ggX9_town_X9_step : GoodIn wsX9_town wsX9_step := goodIn_r _ [18, 1, 2, 19, 20, 7, 21, 22, 23, 24, 25, 26, 27, 17, 28, 8, 29, 30, 31, 32, 33, 34, 35, 36, 10, 68, 69, 70, 71, 72, 73, 74, 75, 76, 77, 78, 79, 80, 81, 82, 83, 84, 85, 86, 87, 88, 89, 90, 91, 92, 93, 94, 95, 96, 97, 98, 99, 100, 101] (by decide +kernel) (by decide +kernel)
set_option maxRecDepth 20000 in
theorem gX9_town_X9_step : GoodIn wsX9_town (wsV RX9 105 RX9 yX9_step wsX9_step) := goodIn_app (goodIn_of _ (by decide +kernel)) ggX9_town_X9_step
set_option maxRecDepth 20000 in
theorem ggX9_town_X9_readLine : GoodIn wsX9_town wsX9_readLine := goodIn_r _ [40, 41, 3, 6, 4, 1, 7, 42, 43, 44, 17, 45, 2, 19, 46, 47, 25, 26, 27, 28, 8, 29, 30, 31, 32, 33, 34, 35, 36, 10, 48, 49, 50, 51, 20, 14, 15, 16, 18, 21, 22, 23, 24, 52, 53, 54, 55, 5, 56, 57, 58, 59, 60, 61, 62, 63, 64, 65, 66, 67, 68, 69, 70, 71, 72, 73, 74, 75, 76, 77, 78, 79, 80, 81, 82, 83, 84, 85, 86, 87, 88, 89, 90, 91, 92, 93, 94, 95, 96, 97, 98, 99, 100, 101] (by decide +kernel) (by decide +kernel)
set_option maxRecDepth 20000 in
theorem gX9_town_X9_readLine : GoodIn wsX9_town (wsV RX9 136 RX9 yX9_readLine wsX9_readLine) := goodIn_app (goodIn_of _ (by decide +kernel)) ggX9_town_X9_readLine
set_option maxRecDepth 20000 in
theorem ggX9_town_X9_fails : GoodIn wsX9_town wsX9_fails := goodIn_r _ [36, 1, 19, 10, 68, 69, 70, 71, 72, 73, 74, 75, 76, 77, 78, 79, 80, 81, 82, 83, 84, 85, 86, 87, 88, 89, 90, 91, 92, 93, 94, 95, 96, 97, 98, 99, 100, 101] (by decide +kernel) (by decide +kernel)
set_option maxRecDepth 20000 in
theorem gX9_town_X9_fails : GoodIn wsX9_town (wsV RX9 97 RX9 yX9_fails wsX9_fails) := goodIn_app (goodIn_of _ (by decide +kernel)) ggX9_town_X9_fails
theorem dX9_town_0 : decode cX9_town 0 = .ok (.aload_n 0, 1) := by decide +kernel
theorem dX9_town_1 : decode cX9_town 1 = .ok (.iconst 0, 1) := by decide +kernel
theorem dX9_town_2 : decode cX9_town 2 = .ok (.putfield 67, 3) := by decide +kernel
theorem dX9_town_5 : decode cX9_town 5 = .ok (.aload_n 0, 1) := by decide +kernel
theorem dX9_town_6 : decode cX9_town 6 = .ok (.iconst 0, 1) := by decide +kernel
theorem dX9_town_7 : decode cX9_town 7 = .ok (.putfield 79, 3) := by decide +kernel
theorem dX9_town_10 : decode cX9_town 10 = .ok (.aload_n 0, 1) := by decide +kernel
theorem dX9_town_11 : decode cX9_town 11 = .ok (.iconst 0, 1) := by decide +kernel
theorem dX9_town_12 : decode cX9_town 12 = .ok (.putfield 129, 3) := by decide +kernel
theorem dX9_town_15 : decode cX9_town 15 = .ok (.aload_n 0, 1) := by decide +kernel
theorem dX9_town_16 : decode cX9_town 16 = .ok (.iconst 0, 1) := by decide +kernel
theorem dX9_town_17 : decode cX9_town 17 = .ok (.putfield 133, 3) := by decide +kernel
theorem dX9_town_20 : decode cX9_town 20 = .ok (.aload_n 0, 1) := by decide +kernel
theorem dX9_town_21 : decode cX9_town 21 = .ok (.iconst (-1), 1) := by decide +kernel
theorem dX9_town_22 : decode cX9_town 22 = .ok (.putfield 108, 3) := by decide +kernel
theorem dX9_town_25 : decode cX9_town 25 = .ok (.iconst 0, 1) := by decide +kernel
theorem dX9_town_26 : decode cX9_town 26 = .ok (.istore_n 1, 1) := by decide +kernel
theorem dX9_town_27 : decode cX9_town 27 = .ok (.iconst 0, 1) := by decide +kernel
theorem dX9_town_28 : decode cX9_town 28 = .ok (.istore_n 2, 1) := by decide +kernel
theorem dX9_town_29 : decode cX9_town 29 = .ok (.iload_n 2, 1) := by decide +kernel
theorem dX9_town_30 : decode cX9_town 30 = .ok (.bipush 94, 2) := by decide +kernel
theorem dX9_town_32 : decode cX9_town 32 = .ok (.if_icmp .ge 16, 3) := by decide +kernel
theorem dX9_town_35 : decode cX9_town 35 = .ok (.aload_n 0, 1) := by decide +kernel
theorem dX9_town_36 : decode cX9_town 36 = .ok (.getfield 13, 3) := by decide +kernel
theorem dX9_town_39 : decode cX9_town 39 = .ok (.iload_n 2, 1) := by decide +kernel
theorem dX9_town_40 : decode cX9_town 40 = .ok (.iconst 0, 1) := by decide +kernel
theorem dX9_town_41 : decode cX9_town 41 = .ok (.iastore, 1) := by decide +kernel
theorem dX9_town_42 : decode cX9_town 42 = .ok (.iinc 2 1, 3) := by decide +kernel
theorem dX9_town_45 : decode cX9_town 45 = .ok (.goto (-16), 3) := by decide +kernel
theorem dX9_town_48 : decode cX9_town 48 = .ok (.aload_n 0, 1) := by decide +kernel
theorem dX9_town_49 : decode cX9_town 49 = .ok (.invokevirtual 105, 3) := by decide +kernel
theorem dX9_town_52 : decode cX9_town 52 = .ok (.aload_n 0, 1) := by decide +kernel
theorem dX9_town_53 : decode cX9_town 53 = .ok (.getfield 67, 3) := by decide +kernel
theorem dX9_town_56 : decode cX9_town 56 = .ok (.ifCond .ne 20, 3) := by decide +kernel
theorem dX9_town_59 : decode cX9_town 59 = .ok (.aload_n 0, 1) := by decide +kernel
theorem dX9_town_60 : decode cX9_town 60 = .ok (.getfield 76, 3) := by decide +kernel
theorem dX9_town_63 : decode cX9_town 63 = .ok (.ifCond .eq 13, 3) := by decide +kernel
theorem dX9_town_66 : decode cX9_town 66 = .ok (.aload_n 0, 1) := by decide +kernel
theorem dX9_town_67 : decode cX9_town 67 = .ok (.invokevirtual 136, 3) := by decide +kernel
theorem dX9_town_70 : decode cX9_town 70 = .ok (.iinc 1 1, 3) := by decide +kernel
theorem dX9_town_73 : decode cX9_town 73 = .ok (.goto (-21), 3) := by decide +kernel
theorem dX9_town_76 : decode cX9_town 76 = .ok (.aload_n 0, 1) := by decide +kernel
theorem dX9_town_77 : decode cX9_town 77 = .ok (.getfield 67, 3) := by decide +kernel
theorem dX9_town_80 : decode cX9_town 80 = .ok (.ifCond .ne 23, 3) := by decide +kernel
theorem dX9_town_83 : decode cX9_town 83 = .ok (.aload_n 0, 1) := by decide +kernel
theorem dX9_town_84 : decode cX9_town 84 = .ok (.getfield 108, 3) := by decide +kernel
theorem dX9_town_87 : decode cX9_town 87 = .ok (.aload_n 0, 1) := by decide +kernel
theorem dX9_town_88 : decode cX9_town 88 = .ok (.getfield 13, 3) := by decide +kernel
theorem dX9_town_91 : decode cX9_town 91 = .ok (.bipush 93, 2) := by decide +kernel
theorem dX9_town_93 : decode cX9_town 93 = .ok (.iaload, 1) := by decide +kernel
theorem dX9_town_94 : decode cX9_town 94 = .ok (.if_icmp .lt 9, 3) := by decide +kernel
theorem dX9_town_97 : decode cX9_town 97 = .ok (.aload_n 0, 1) := by decide +kernel
theorem dX9_town_98 : decode cX9_town 98 = .ok (.bipush 6, 2) := by decide +kernel
theorem dX9_town_100 : decode cX9_town 100 = .ok (.invokevirtual 97, 3) := by decide +kernel
theorem dX9_town_103 : decode cX9_town 103 = .ok (.aload_n 0, 1) := by decide +kernel
theorem dX9_town_104 : decode cX9_town 104 = .ok (.iconst 0, 1) := by decide +kernel
theorem dX9_town_105 : decode cX9_town 105 = .ok (.putfield 59, 3) := by decide +kernel
theorem dX9_town_108 : decode cX9_town 108 = .ok (.aload_n 0, 1) := by decide +kernel
theorem dX9_town_109 : decode cX9_town 109 = .ok (.aload_n 0, 1) := by decide +kernel
theorem dX9_town_110 : decode cX9_town 110 = .ok (.getfield 67, 3) := by decide +kernel
theorem dX9_town_113 : decode cX9_town 113 = .ok (.putfield 139, 3) := by decide +kernel
theorem dX9_town_116 : decode cX9_town 116 = .ok (.aload_n 0, 1) := by decide +kernel
theorem dX9_town_117 : decode cX9_town 117 = .ok (.getfield 67, 3) := by decide +kernel
theorem dX9_town_120 : decode cX9_town 120 = .ok (.ifCond .le 11, 3) := by decide +kernel
theorem dX9_town_123 : decode cX9_town 123 = .ok (.bipush (-10), 2) := by decide +kernel
theorem dX9_town_125 : decode cX9_town 125 = .ok (.aload_n 0, 1) := by decide +kernel
theorem dX9_town_126 : decode cX9_town 126 = .ok (.getfield 73, 3) := by decide +kernel
theorem dX9_town_129 : decode cX9_town 129 = .ok (.isub, 1) := by decide +kernel
theorem dX9_town_130 : decode cX9_town 130 = .ok (.ireturn, 1) := by decide +kernel
theorem dX9_town_131 : decode cX9_town 131 = .ok (.iconst 0, 1) := by decide +kernel
theorem dX9_town_132 : decode cX9_town 132 = .ok (.istore_n 2, 1) := by decide +kernel
theorem dX9_town_133 : decode cX9_town 133 = .ok (.iload_n 2, 1) := by decide +kernel
theorem dX9_town_134 : decode cX9_town 134 = .ok (.bipush 94, 2) := by decide +kernel
theorem dX9_town_136 : decode cX9_town 136 = .ok (.if_icmp .ge 21, 3) := by decide +kernel
theorem dX9_town_139 : decode cX9_town 139 = .ok (.aload_n 0, 1) := by decide +kernel
theorem dX9_town_140 : decode cX9_town 140 = .ok (.getfield 7, 3) := by decide +kernel
theorem dX9_town_143 : decode cX9_town 143 = .ok (.iload_n 2, 1) := by decide +kernel
theorem dX9_town_144 : decode cX9_town 144 = .ok (.aload_n 0, 1) := by decide +kernel
theorem dX9_town_145 : decode cX9_town 145 = .ok (.getfield 13, 3) := by decide +kernel
theorem dX9_town_148 : decode cX9_town 148 = .ok (.iload_n 2, 1) := by decide +kernel
theorem dX9_town_149 : decode cX9_town 149 = .ok (.iaload, 1) := by decide +kernel
theorem dX9_town_150 : decode cX9_town 150 = .ok (.iastore, 1) := by decide +kernel
theorem dX9_town_151 : decode cX9_town 151 = .ok (.iinc 2 1, 3) := by decide +kernel
theorem dX9_town_154 : decode cX9_town 154 = .ok (.goto (-21), 3) := by decide +kernel
theorem dX9_town_157 : decode cX9_town 157 = .ok (.aload_n 0, 1) := by decide +kernel
theorem dX9_town_158 : decode cX9_town 158 = .ok (.iconst 0, 1) := by decide +kernel
theorem dX9_town_159 : decode cX9_town 159 = .ok (.putfield 142, 3) := by decide +kernel
theorem dX9_town_162 : decode cX9_town 162 = .ok (.aload_n 0, 1) := by decide +kernel
theorem dX9_town_163 : decode cX9_town 163 = .ok (.getfield 46, 3) := by decide +kernel
theorem dX9_town_166 : decode cX9_town 166 = .ok (.iconst 0, 1) := by decide +kernel
theorem dX9_town_167 : decode cX9_town 167 = .ok (.iconst 0, 1) := by decide +kernel
theorem dX9_town_168 : decode cX9_town 168 = .ok (.bastore, 1) := by decide +kernel
theorem dX9_town_169 : decode cX9_town 169 = .ok (.aload_n 0, 1) := by decide +kernel
theorem dX9_town_170 : decode cX9_town 170 = .ok (.getfield 46, 3) := by decide +kernel
theorem dX9_town_173 : decode cX9_town 173 = .ok (.iconst 1, 1) := by decide +kernel
theorem dX9_town_174 : decode cX9_town 174 = .ok (.iconst 0, 1) := by decide +kernel
theorem dX9_town_175 : decode cX9_town 175 = .ok (.bastore, 1) := by decide +kernel
theorem dX9_town_176 : decode cX9_town 176 = .ok (.iload_n 1, 1) := by decide +kernel
theorem dX9_town_177 : decode cX9_town 177 = .ok (.ireturn, 1) := by decide +kernel
theorem dX9_fault_0 : decode cX9_fault 0 = .ok (.aload_n 0, 1) := by decide +kernel
theorem dX9_fault_1 : decode cX9_fault 1 = .ok (.getfield 139, 3) := by decide +kernel
theorem dX9_fault_4 : decode cX9_fault 4 = .ok (.ireturn, 1) := by decide +kernel
theorem dX9_many_0 : decode cX9_many 0 = .ok (.aload_n 0, 1) := by decide +kernel
theorem dX9_many_1 : decode cX9_many 1 = .ok (.getfield 7, 3) := by decide +kernel
theorem dX9_many_4 : decode cX9_many 4 = .ok (.bipush 93, 2) := by decide +kernel
theorem dX9_many_6 : decode cX9_many 6 = .ok (.iaload, 1) := by decide +kernel
theorem dX9_many_7 : decode cX9_many 7 = .ok (.ireturn, 1) := by decide +kernel
set_option maxRecDepth 20000 in
theorem ggX9_isOne_X9_many : GoodIn wsX9_isOne wsX9_many := goodIn_r _ [5, 6, 10, 11, 12, 13, 14, 15, 16, 17, 18, 19, 20, 21, 22, 23, 24, 25, 26, 27, 28, 29, 30, 31, 32, 33, 34, 35, 36, 37, 38, 39, 40, 41, 42, 43] (by decide +kernel) (by decide +kernel)
set_option maxRecDepth 20000 in
theorem gX9_isOne_X9_many : GoodIn wsX9_isOne (wsV RX9 145 RX9 yX9_many wsX9_many) := goodIn_app (goodIn_of _ (by decide +kernel)) ggX9_isOne_X9_many
set_option maxRecDepth 20000 in
theorem ggX9_isOne_X9_in : GoodIn wsX9_isOne wsX9_in := goodIn_r _ [9] (by decide +kernel) (by decide +kernel)
set_option maxRecDepth 20000 in
theorem gX9_isOne_X9_in : GoodIn wsX9_isOne (va_wsS RX9 63 yX9_in wsX9_in) := goodIn_app (goodIn_of _ (by decide +kernel)) ggX9_isOne_X9_in
theorem dX9_isOne_0 : decode cX9_isOne 0 = .ok (.iload_n 1, 1) := by decide +kernel
theorem dX9_isOne_1 : decode cX9_isOne 1 = .ok (.i2l, 1) := by decide +kernel
theorem dX9_isOne_2 : decode cX9_isOne 2 = .ok (.lconst 0, 1) := by decide +kernel
theorem dX9_isOne_3 : decode cX9_isOne 3 = .ok (.aload_n 0, 1) := by decide +kernel
theorem dX9_isOne_4 : decode cX9_isOne 4 = .ok (.invokevirtual 145, 3) := by decide +kernel
theorem dX9_isOne_7 : decode cX9_isOne 7 = .ok (.iconst 1, 1) := by decide +kernel
theorem dX9_isOne_8 : decode cX9_isOne 8 = .ok (.isub, 1) := by decide +kernel
theorem dX9_isOne_9 : decode cX9_isOne 9 = .ok (.i2l, 1) := by decide +kernel
theorem dX9_isOne_10 : decode cX9_isOne 10 = .ok (.invokestatic 63, 3) := by decide +kernel
theorem dX9_isOne_13 : decode cX9_isOne 13 = .ok (.ireturn, 1) := by decide +kernel
set_option maxRecDepth 20000 in
theorem ggX9_areTwo_X9_isOne : GoodIn wsX9_areTwo wsX9_isOne := goodIn_r _ [5, 6, 7, 8, 4, 9, 10, 11, 12, 13, 14, 15, 16, 17, 18, 19, 20, 21, 22, 23, 24, 25, 26, 27, 28, 29, 30, 31, 32, 33, 34, 35, 36, 37, 38, 39, 40, 41, 42, 43, 44, 45, 46, 47] (by decide +kernel) (by decide +kernel)
set_option maxRecDepth 20000 in
theorem gX9_areTwo_X9_isOne : GoodIn wsX9_areTwo (wsV RX9 148 RX9 yX9_isOne wsX9_isOne) := goodIn_app (goodIn_of _ (by decide +kernel)) ggX9_areTwo_X9_isOne
theorem dX9_areTwo_0 : decode cX9_areTwo 0 = .ok (.aload_n 0, 1) := by decide +kernel
theorem dX9_areTwo_1 : decode cX9_areTwo 1 = .ok (.iload_n 1, 1) := by decide +kernel
theorem dX9_areTwo_2 : decode cX9_areTwo 2 = .ok (.invokevirtual 148, 3) := by decide +kernel
theorem dX9_areTwo_5 : decode cX9_areTwo 5 = .ok (.ifCond .eq 20, 3) := by decide +kernel
theorem dX9_areTwo_8 : decode cX9_areTwo 8 = .ok (.aload_n 0, 1) := by decide +kernel
theorem dX9_areTwo_9 : decode cX9_areTwo 9 = .ok (.iload_n 2, 1) := by decide +kernel
theorem dX9_areTwo_10 : decode cX9_areTwo 10 = .ok (.invokevirtual 148, 3) := by decide +kernel
theorem dX9_areTwo_13 : decode cX9_areTwo 13 = .ok (.ifCond .eq 12, 3) := by decide +kernel
theorem dX9_areTwo_16 : decode cX9_areTwo 16 = .ok (.iload_n 1, 1) := by decide +kernel
theorem dX9_areTwo_17 : decode cX9_areTwo 17 = .ok (.iload_n 2, 1) := by decide +kernel
theorem dX9_areTwo_18 : decode cX9_areTwo 18 = .ok (.if_icmp .eq 7, 3) := by decide +kernel
theorem dX9_areTwo_21 : decode cX9_areTwo 21 = .ok (.iconst 1, 1) := by decide +kernel
theorem dX9_areTwo_22 : decode cX9_areTwo 22 = .ok (.goto 4, 3) := by decide +kernel
theorem dX9_areTwo_25 : decode cX9_areTwo 25 = .ok (.iconst 0, 1) := by decide +kernel
theorem dX9_areTwo_26 : decode cX9_areTwo 26 = .ok (.ireturn, 1) := by decide +kernel
set_option maxRecDepth 20000 in
theorem ggX9_rule_X9_many : GoodIn wsX9_rule wsX9_many := goodIn_r _ [6, 1, 7, 8, 9, 10, 11, 12, 13, 14, 15, 16, 17, 18, 19, 20, 21, 22, 23, 24, 25, 26, 27, 28, 29, 30, 31, 32, 33, 34, 35, 36, 37, 38, 39, 40] (by decide +kernel) (by decide +kernel)
set_option maxRecDepth 20000 in
theorem gX9_rule_X9_many : GoodIn wsX9_rule (wsV RX9 145 RX9 yX9_many wsX9_many) := goodIn_app (goodIn_of _ (by decide +kernel)) ggX9_rule_X9_many
theorem dX9_rule_0 : decode cX9_rule 0 = .ok (.iload_n 1, 1) := by decide +kernel
theorem dX9_rule_1 : decode cX9_rule 1 = .ok (.ifCond .ne 10, 3) := by decide +kernel
theorem dX9_rule_4 : decode cX9_rule 4 = .ok (.aload_n 0, 1) := by decide +kernel
theorem dX9_rule_5 : decode cX9_rule 5 = .ok (.invokevirtual 145, 3) := by decide +kernel
theorem dX9_rule_8 : decode cX9_rule 8 = .ok (.goto 36, 3) := by decide +kernel
theorem dX9_rule_11 : decode cX9_rule 11 = .ok (.iload_n 1, 1) := by decide +kernel
theorem dX9_rule_12 : decode cX9_rule 12 = .ok (.iconst 1, 1) := by decide +kernel
theorem dX9_rule_13 : decode cX9_rule 13 = .ok (.if_icmp .ne 13, 3) := by decide +kernel
theorem dX9_rule_16 : decode cX9_rule 16 = .ok (.aload_n 0, 1) := by decide +kernel
theorem dX9_rule_17 : decode cX9_rule 17 = .ok (.getfield 7, 3) := by decide +kernel
theorem dX9_rule_20 : decode cX9_rule 20 = .ok (.bipush 91, 2) := by decide +kernel
theorem dX9_rule_22 : decode cX9_rule 22 = .ok (.iaload, 1) := by decide +kernel
theorem dX9_rule_23 : decode cX9_rule 23 = .ok (.goto 21, 3) := by decide +kernel
theorem dX9_rule_26 : decode cX9_rule 26 = .ok (.iload_n 1, 1) := by decide +kernel
theorem dX9_rule_27 : decode cX9_rule 27 = .ok (.iconst 2, 1) := by decide +kernel
theorem dX9_rule_28 : decode cX9_rule 28 = .ok (.if_icmp .ne 15, 3) := by decide +kernel
theorem dX9_rule_31 : decode cX9_rule 31 = .ok (.iconst 1, 1) := by decide +kernel
theorem dX9_rule_32 : decode cX9_rule 32 = .ok (.aload_n 0, 1) := by decide +kernel
theorem dX9_rule_33 : decode cX9_rule 33 = .ok (.getfield 7, 3) := by decide +kernel
theorem dX9_rule_36 : decode cX9_rule 36 = .ok (.bipush 92, 2) := by decide +kernel
theorem dX9_rule_38 : decode cX9_rule 38 = .ok (.iaload, 1) := by decide +kernel
theorem dX9_rule_39 : decode cX9_rule 39 = .ok (.iadd, 1) := by decide +kernel
theorem dX9_rule_40 : decode cX9_rule 40 = .ok (.goto 4, 3) := by decide +kernel
theorem dX9_rule_43 : decode cX9_rule 43 = .ok (.iconst (-1), 1) := by decide +kernel
theorem dX9_rule_44 : decode cX9_rule 44 = .ok (.ireturn, 1) := by decide +kernel
set_option maxRecDepth 20000 in
theorem ggX9_one_X9_isOne : GoodIn wsX9_one wsX9_isOne := goodIn_r _ [7, 8, 9, 10, 6, 11, 2, 12, 13, 14, 15, 16, 17, 18, 19, 20, 21, 22, 23, 24, 25, 26, 27, 28, 29, 30, 31, 32, 33, 34, 35, 36, 37, 38, 39, 40, 41, 42, 43, 44, 45, 46, 47, 48] (by decide +kernel) (by decide +kernel)
set_option maxRecDepth 20000 in
theorem gX9_one_X9_isOne : GoodIn wsX9_one (wsV RX9 148 RX9 yX9_isOne wsX9_isOne) := goodIn_app (goodIn_of _ (by decide +kernel)) ggX9_one_X9_isOne
set_option maxRecDepth 20000 in
theorem ggX9_one_X9_in : GoodIn wsX9_one wsX9_in := goodIn_r _ [14] (by decide +kernel) (by decide +kernel)
set_option maxRecDepth 20000 in
theorem gX9_one_X9_in : GoodIn wsX9_one (va_wsS RX9 63 yX9_in wsX9_in) := goodIn_app (goodIn_of _ (by decide +kernel)) ggX9_one_X9_in
theorem dX9_one_0 : decode cX9_one 0 = .ok (.aload_n 0, 1) := by decide +kernel
theorem dX9_one_1 : decode cX9_one 1 = .ok (.iload_n 1, 1) := by decide +kernel
theorem dX9_one_2 : decode cX9_one 2 = .ok (.invokevirtual 148, 3) := by decide +kernel
theorem dX9_one_5 : decode cX9_one 5 = .ok (.ifCond .eq 29, 3) := by decide +kernel
theorem dX9_one_8 : decode cX9_one 8 = .ok (.iload_n 2, 1) := by decide +kernel
theorem dX9_one_9 : decode cX9_one 9 = .ok (.i2l, 1) := by decide +kernel
theorem dX9_one_10 : decode cX9_one 10 = .ok (.lconst 0, 1) := by decide +kernel
theorem dX9_one_11 : decode cX9_one 11 = .ok (.ldc2_w 152, 3) := by decide +kernel
theorem dX9_one_14 : decode cX9_one 14 = .ok (.invokestatic 63, 3) := by decide +kernel
theorem dX9_one_17 : decode cX9_one 17 = .ok (.ifCond .eq 17, 3) := by decide +kernel
theorem dX9_one_20 : decode cX9_one 20 = .ok (.aload_n 0, 1) := by decide +kernel
theorem dX9_one_21 : decode cX9_one 21 = .ok (.getfield 7, 3) := by decide +kernel
theorem dX9_one_24 : decode cX9_one 24 = .ok (.bipush 6, 2) := by decide +kernel
theorem dX9_one_26 : decode cX9_one 26 = .ok (.iload_n 1, 1) := by decide +kernel
theorem dX9_one_27 : decode cX9_one 27 = .ok (.imul, 1) := by decide +kernel
theorem dX9_one_28 : decode cX9_one 28 = .ok (.iload_n 2, 1) := by decide +kernel
theorem dX9_one_29 : decode cX9_one 29 = .ok (.iadd, 1) := by decide +kernel
theorem dX9_one_30 : decode cX9_one 30 = .ok (.iaload, 1) := by decide +kernel
theorem dX9_one_31 : decode cX9_one 31 = .ok (.goto 4, 3) := by decide +kernel
theorem dX9_one_34 : decode cX9_one 34 = .ok (.iconst (-1), 1) := by decide +kernel
theorem dX9_one_35 : decode cX9_one 35 = .ok (.ireturn, 1) := by decide +kernel
theorem dX9_debtAt_0 : decode cX9_debtAt 0 = .ok (.bipush 42, 2) := by decide +kernel
theorem dX9_debtAt_2 : decode cX9_debtAt 2 = .ok (.bipush 7, 2) := by decide +kernel
theorem dX9_debtAt_4 : decode cX9_debtAt 4 = .ok (.iload_n 0, 1) := by decide +kernel
theorem dX9_debtAt_5 : decode cX9_debtAt 5 = .ok (.imul, 1) := by decide +kernel
theorem dX9_debtAt_6 : decode cX9_debtAt 6 = .ok (.iadd, 1) := by decide +kernel
theorem dX9_debtAt_7 : decode cX9_debtAt 7 = .ok (.iload_n 1, 1) := by decide +kernel
theorem dX9_debtAt_8 : decode cX9_debtAt 8 = .ok (.iadd, 1) := by decide +kernel
theorem dX9_debtAt_9 : decode cX9_debtAt 9 = .ok (.ireturn, 1) := by decide +kernel
set_option maxRecDepth 20000 in
theorem ggX9_owes_X9_areTwo : GoodIn wsX9_owes wsX9_areTwo := goodIn_r _ [6, 7, 8, 9, 5, 10, 11, 12, 13, 14, 1, 15, 16, 17, 21, 22, 23, 24, 25, 26, 27, 28, 29, 30, 31, 32, 33, 34, 35, 36, 37, 38, 39, 40, 41, 42, 43, 44, 45, 46, 47, 48, 49, 50, 51, 52, 53, 54] (by decide +kernel) (by decide +kernel)
set_option maxRecDepth 20000 in
theorem gX9_owes_X9_areTwo : GoodIn wsX9_owes (wsV RX9 154 RX9 yX9_areTwo wsX9_areTwo) := goodIn_app (goodIn_of _ (by decide +kernel)) ggX9_owes_X9_areTwo
set_option maxRecDepth 20000 in
theorem ggX9_owes_X9_debtAt : GoodIn wsX9_owes wsX9_debtAt := goodIn_r _ [20] (by decide +kernel) (by decide +kernel)
set_option maxRecDepth 20000 in
theorem gX9_owes_X9_debtAt : GoodIn wsX9_owes (va_wsS RX9 158 yX9_debtAt wsX9_debtAt) := goodIn_app (goodIn_of _ (by decide +kernel)) ggX9_owes_X9_debtAt
theorem dX9_owes_0 : decode cX9_owes 0 = .ok (.aload_n 0, 1) := by decide +kernel
theorem dX9_owes_1 : decode cX9_owes 1 = .ok (.iload_n 1, 1) := by decide +kernel
theorem dX9_owes_2 : decode cX9_owes 2 = .ok (.iload_n 2, 1) := by decide +kernel
theorem dX9_owes_3 : decode cX9_owes 3 = .ok (.invokevirtual 154, 3) := by decide +kernel
theorem dX9_owes_6 : decode cX9_owes 6 = .ok (.ifCond .eq 16, 3) := by decide +kernel
theorem dX9_owes_9 : decode cX9_owes 9 = .ok (.aload_n 0, 1) := by decide +kernel
theorem dX9_owes_10 : decode cX9_owes 10 = .ok (.getfield 7, 3) := by decide +kernel
theorem dX9_owes_13 : decode cX9_owes 13 = .ok (.iload_n 1, 1) := by decide +kernel
theorem dX9_owes_14 : decode cX9_owes 14 = .ok (.iload_n 2, 1) := by decide +kernel
theorem dX9_owes_15 : decode cX9_owes 15 = .ok (.invokestatic 158, 3) := by decide +kernel
theorem dX9_owes_18 : decode cX9_owes 18 = .ok (.iaload, 1) := by decide +kernel
theorem dX9_owes_19 : decode cX9_owes 19 = .ok (.goto 4, 3) := by decide +kernel
theorem dX9_owes_22 : decode cX9_owes 22 = .ok (.iconst (-1), 1) := by decide +kernel
theorem dX9_owes_23 : decode cX9_owes 23 = .ok (.ireturn, 1) := by decide +kernel
set_option maxRecDepth 20000 in
theorem ggX9_due_X9_debtAt : GoodIn wsX9_due wsX9_debtAt := goodIn_r _ [5] (by decide +kernel) (by decide +kernel)
set_option maxRecDepth 20000 in
theorem gX9_due_X9_debtAt : GoodIn wsX9_due (va_wsS RX9 158 yX9_debtAt wsX9_debtAt) := goodIn_app (goodIn_of _ (by decide +kernel)) ggX9_due_X9_debtAt
theorem dX9_due_0 : decode cX9_due 0 = .ok (.aload_n 0, 1) := by decide +kernel
theorem dX9_due_1 : decode cX9_due 1 = .ok (.getfield 7, 3) := by decide +kernel
theorem dX9_due_4 : decode cX9_due 4 = .ok (.iload_n 1, 1) := by decide +kernel
theorem dX9_due_5 : decode cX9_due 5 = .ok (.bipush 6, 2) := by decide +kernel
theorem dX9_due_7 : decode cX9_due 7 = .ok (.iload_n 2, 1) := by decide +kernel
theorem dX9_due_8 : decode cX9_due 8 = .ok (.imul, 1) := by decide +kernel
theorem dX9_due_9 : decode cX9_due 9 = .ok (.iadd, 1) := by decide +kernel
theorem dX9_due_10 : decode cX9_due 10 = .ok (.iconst 5, 1) := by decide +kernel
theorem dX9_due_11 : decode cX9_due 11 = .ok (.iadd, 1) := by decide +kernel
theorem dX9_due_12 : decode cX9_due 12 = .ok (.iaload, 1) := by decide +kernel
theorem dX9_due_13 : decode cX9_due 13 = .ok (.istore 4, 2) := by decide +kernel
theorem dX9_due_15 : decode cX9_due 15 = .ok (.aload_n 0, 1) := by decide +kernel
theorem dX9_due_16 : decode cX9_due 16 = .ok (.getfield 7, 3) := by decide +kernel
theorem dX9_due_19 : decode cX9_due 19 = .ok (.iload_n 1, 1) := by decide +kernel
theorem dX9_due_20 : decode cX9_due 20 = .ok (.iload_n 2, 1) := by decide +kernel
theorem dX9_due_21 : decode cX9_due 21 = .ok (.iload_n 3, 1) := by decide +kernel
theorem dX9_due_22 : decode cX9_due 22 = .ok (.invokestatic 158, 3) := by decide +kernel
theorem dX9_due_25 : decode cX9_due 25 = .ok (.iadd, 1) := by decide +kernel
theorem dX9_due_26 : decode cX9_due 26 = .ok (.iaload, 1) := by decide +kernel
theorem dX9_due_27 : decode cX9_due 27 = .ok (.aload_n 0, 1) := by decide +kernel
theorem dX9_due_28 : decode cX9_due 28 = .ok (.getfield 7, 3) := by decide +kernel
theorem dX9_due_31 : decode cX9_due 31 = .ok (.iload_n 1, 1) := by decide +kernel
theorem dX9_due_32 : decode cX9_due 32 = .ok (.bipush 6, 2) := by decide +kernel
theorem dX9_due_34 : decode cX9_due 34 = .ok (.iload_n 2, 1) := by decide +kernel
theorem dX9_due_35 : decode cX9_due 35 = .ok (.imul, 1) := by decide +kernel
theorem dX9_due_36 : decode cX9_due 36 = .ok (.iadd, 1) := by decide +kernel
theorem dX9_due_37 : decode cX9_due 37 = .ok (.iaload, 1) := by decide +kernel
theorem dX9_due_38 : decode cX9_due 38 = .ok (.iconst 4, 1) := by decide +kernel
theorem dX9_due_39 : decode cX9_due 39 = .ok (.if_icmp .ne 25, 3) := by decide +kernel
theorem dX9_due_42 : decode cX9_due 42 = .ok (.iload 4, 2) := by decide +kernel
theorem dX9_due_44 : decode cX9_due 44 = .ok (.iload_n 3, 1) := by decide +kernel
theorem dX9_due_45 : decode cX9_due 45 = .ok (.if_icmp .eq 19, 3) := by decide +kernel
theorem dX9_due_48 : decode cX9_due 48 = .ok (.aload_n 0, 1) := by decide +kernel
theorem dX9_due_49 : decode cX9_due 49 = .ok (.getfield 7, 3) := by decide +kernel
theorem dX9_due_52 : decode cX9_due 52 = .ok (.iload_n 1, 1) := by decide +kernel
theorem dX9_due_53 : decode cX9_due 53 = .ok (.iload 4, 2) := by decide +kernel
theorem dX9_due_55 : decode cX9_due 55 = .ok (.iload_n 3, 1) := by decide +kernel
theorem dX9_due_56 : decode cX9_due 56 = .ok (.invokestatic 158, 3) := by decide +kernel
theorem dX9_due_59 : decode cX9_due 59 = .ok (.iadd, 1) := by decide +kernel
theorem dX9_due_60 : decode cX9_due 60 = .ok (.iaload, 1) := by decide +kernel
theorem dX9_due_61 : decode cX9_due 61 = .ok (.goto 4, 3) := by decide +kernel
theorem dX9_due_64 : decode cX9_due 64 = .ok (.iconst 0, 1) := by decide +kernel
theorem dX9_due_65 : decode cX9_due 65 = .ok (.iadd, 1) := by decide +kernel
theorem dX9_due_66 : decode cX9_due 66 = .ok (.ireturn, 1) := by decide +kernel
set_option maxRecDepth 20000 in
theorem ggX9_mustLet_X9_due : GoodIn wsX9_mustLet wsX9_due := goodIn_r _ [6, 1, 7, 8, 5, 9, 10, 11, 12, 13, 14, 15, 16, 17, 18, 19, 20, 21, 22, 23, 24, 25, 26, 27, 28, 29, 30, 31, 32, 33, 34, 35, 36, 37, 38, 39, 40, 41, 42, 43] (by decide +kernel) (by decide +kernel)
set_option maxRecDepth 20000 in
theorem gX9_mustLet_X9_due : GoodIn wsX9_mustLet (wsV RX9 161 RX9 yX9_due wsX9_due) := goodIn_app (goodIn_of _ (by decide +kernel)) ggX9_mustLet_X9_due
theorem dX9_mustLet_0 : decode cX9_mustLet 0 = .ok (.aload_n 0, 1) := by decide +kernel
theorem dX9_mustLet_1 : decode cX9_mustLet 1 = .ok (.getfield 7, 3) := by decide +kernel
theorem dX9_mustLet_4 : decode cX9_mustLet 4 = .ok (.iload_n 1, 1) := by decide +kernel
theorem dX9_mustLet_5 : decode cX9_mustLet 5 = .ok (.bipush 6, 2) := by decide +kernel
theorem dX9_mustLet_7 : decode cX9_mustLet 7 = .ok (.iload_n 3, 1) := by decide +kernel
theorem dX9_mustLet_8 : decode cX9_mustLet 8 = .ok (.imul, 1) := by decide +kernel
theorem dX9_mustLet_9 : decode cX9_mustLet 9 = .ok (.iadd, 1) := by decide +kernel
theorem dX9_mustLet_10 : decode cX9_mustLet 10 = .ok (.iaload, 1) := by decide +kernel
theorem dX9_mustLet_11 : decode cX9_mustLet 11 = .ok (.istore 4, 2) := by decide +kernel
theorem dX9_mustLet_13 : decode cX9_mustLet 13 = .ok (.aload_n 0, 1) := by decide +kernel
theorem dX9_mustLet_14 : decode cX9_mustLet 14 = .ok (.iload_n 1, 1) := by decide +kernel
theorem dX9_mustLet_15 : decode cX9_mustLet 15 = .ok (.iload_n 2, 1) := by decide +kernel
theorem dX9_mustLet_16 : decode cX9_mustLet 16 = .ok (.iload_n 3, 1) := by decide +kernel
theorem dX9_mustLet_17 : decode cX9_mustLet 17 = .ok (.invokevirtual 161, 3) := by decide +kernel
theorem dX9_mustLet_20 : decode cX9_mustLet 20 = .ok (.istore 5, 2) := by decide +kernel
theorem dX9_mustLet_22 : decode cX9_mustLet 22 = .ok (.iload 4, 2) := by decide +kernel
theorem dX9_mustLet_24 : decode cX9_mustLet 24 = .ok (.iconst 3, 1) := by decide +kernel
theorem dX9_mustLet_25 : decode cX9_mustLet 25 = .ok (.if_icmp .eq 37, 3) := by decide +kernel
theorem dX9_mustLet_28 : decode cX9_mustLet 28 = .ok (.iload 4, 2) := by decide +kernel
theorem dX9_mustLet_30 : decode cX9_mustLet 30 = .ok (.iconst 2, 1) := by decide +kernel
theorem dX9_mustLet_31 : decode cX9_mustLet 31 = .ok (.if_icmp .eq 35, 3) := by decide +kernel
theorem dX9_mustLet_34 : decode cX9_mustLet 34 = .ok (.iload 5, 2) := by decide +kernel
theorem dX9_mustLet_36 : decode cX9_mustLet 36 = .ok (.aload_n 0, 1) := by decide +kernel
theorem dX9_mustLet_37 : decode cX9_mustLet 37 = .ok (.getfield 7, 3) := by decide +kernel
theorem dX9_mustLet_40 : decode cX9_mustLet 40 = .ok (.iload_n 1, 1) := by decide +kernel
theorem dX9_mustLet_41 : decode cX9_mustLet 41 = .ok (.bipush 91, 2) := by decide +kernel
theorem dX9_mustLet_43 : decode cX9_mustLet 43 = .ok (.iadd, 1) := by decide +kernel
theorem dX9_mustLet_44 : decode cX9_mustLet 44 = .ok (.iaload, 1) := by decide +kernel
theorem dX9_mustLet_45 : decode cX9_mustLet 45 = .ok (.ifCond .ne 7, 3) := by decide +kernel
theorem dX9_mustLet_48 : decode cX9_mustLet 48 = .ok (.iconst 0, 1) := by decide +kernel
theorem dX9_mustLet_49 : decode cX9_mustLet 49 = .ok (.goto 10, 3) := by decide +kernel
theorem dX9_mustLet_52 : decode cX9_mustLet 52 = .ok (.aload_n 0, 1) := by decide +kernel
theorem dX9_mustLet_53 : decode cX9_mustLet 53 = .ok (.iload_n 1, 1) := by decide +kernel
theorem dX9_mustLet_54 : decode cX9_mustLet 54 = .ok (.iload_n 3, 1) := by decide +kernel
theorem dX9_mustLet_55 : decode cX9_mustLet 55 = .ok (.iload_n 2, 1) := by decide +kernel
theorem dX9_mustLet_56 : decode cX9_mustLet 56 = .ok (.invokevirtual 161, 3) := by decide +kernel
theorem dX9_mustLet_59 : decode cX9_mustLet 59 = .ok (.if_icmp .le 7, 3) := by decide +kernel
theorem dX9_mustLet_62 : decode cX9_mustLet 62 = .ok (.iconst 1, 1) := by decide +kernel
theorem dX9_mustLet_63 : decode cX9_mustLet 63 = .ok (.goto 4, 3) := by decide +kernel
theorem dX9_mustLet_66 : decode cX9_mustLet 66 = .ok (.iconst 0, 1) := by decide +kernel
theorem dX9_mustLet_67 : decode cX9_mustLet 67 = .ok (.ireturn, 1) := by decide +kernel
set_option maxRecDepth 20000 in
theorem ggX9_must_X9_areTwo : GoodIn wsX9_must wsX9_areTwo := goodIn_r _ [5, 6, 7, 8, 4, 9, 10, 11, 12, 13, 14, 15, 16, 17, 29, 30, 31, 32, 33, 34, 35, 36, 37, 38, 39, 40, 41, 42, 43, 44, 45, 46, 47, 48, 49, 50, 51, 52, 53, 54, 55, 56, 57, 58, 59, 60, 61, 62] (by decide +kernel) (by decide +kernel)
set_option maxRecDepth 20000 in
theorem gX9_must_X9_areTwo : GoodIn wsX9_must (wsV RX9 154 RX9 yX9_areTwo wsX9_areTwo) := goodIn_app (goodIn_of _ (by decide +kernel)) ggX9_must_X9_areTwo
set_option maxRecDepth 20000 in
theorem ggX9_must_X9_mustLet : GoodIn wsX9_must wsX9_mustLet := goodIn_r _ [21, 14, 22, 23, 24, 4, 25, 26, 27, 28, 29, 30, 31, 32, 33, 34, 35, 36, 37, 38, 39, 40, 41, 42, 43, 44, 45, 46, 47, 48, 49, 50, 51, 52, 53, 54, 55, 56, 57, 58, 59, 60, 61, 62] (by decide +kernel) (by decide +kernel)
set_option maxRecDepth 20000 in
theorem gX9_must_X9_mustLet : GoodIn wsX9_must (wsV RX9 165 RX9 yX9_mustLet wsX9_mustLet) := goodIn_app (goodIn_of _ (by decide +kernel)) ggX9_must_X9_mustLet
theorem dX9_must_0 : decode cX9_must 0 = .ok (.aload_n 0, 1) := by decide +kernel
theorem dX9_must_1 : decode cX9_must 1 = .ok (.iload_n 1, 1) := by decide +kernel
theorem dX9_must_2 : decode cX9_must 2 = .ok (.iload_n 2, 1) := by decide +kernel
theorem dX9_must_3 : decode cX9_must 3 = .ok (.invokevirtual 154, 3) := by decide +kernel
theorem dX9_must_6 : decode cX9_must 6 = .ok (.ifCond .eq 21, 3) := by decide +kernel
theorem dX9_must_9 : decode cX9_must 9 = .ok (.aload_n 0, 1) := by decide +kernel
theorem dX9_must_10 : decode cX9_must 10 = .ok (.iconst 0, 1) := by decide +kernel
theorem dX9_must_11 : decode cX9_must 11 = .ok (.iload_n 1, 1) := by decide +kernel
theorem dX9_must_12 : decode cX9_must 12 = .ok (.iload_n 2, 1) := by decide +kernel
theorem dX9_must_13 : decode cX9_must 13 = .ok (.invokevirtual 165, 3) := by decide +kernel
theorem dX9_must_16 : decode cX9_must 16 = .ok (.ifCond .eq 7, 3) := by decide +kernel
theorem dX9_must_19 : decode cX9_must 19 = .ok (.iconst 1, 1) := by decide +kernel
theorem dX9_must_20 : decode cX9_must 20 = .ok (.goto 8, 3) := by decide +kernel
theorem dX9_must_23 : decode cX9_must 23 = .ok (.iconst 0, 1) := by decide +kernel
theorem dX9_must_24 : decode cX9_must 24 = .ok (.goto 4, 3) := by decide +kernel
theorem dX9_must_27 : decode cX9_must 27 = .ok (.iconst (-1), 1) := by decide +kernel
theorem dX9_must_28 : decode cX9_must 28 = .ok (.ireturn, 1) := by decide +kernel
set_option maxRecDepth 20000 in
theorem ggX9_law_X9_in : GoodIn wsX9_law wsX9_in := goodIn_r _ [5] (by decide +kernel) (by decide +kernel)
set_option maxRecDepth 20000 in
theorem gX9_law_X9_in : GoodIn wsX9_law (va_wsS RX9 63 yX9_in wsX9_in) := goodIn_app (goodIn_of _ (by decide +kernel)) ggX9_law_X9_in
theorem dX9_law_0 : decode cX9_law 0 = .ok (.iload_n 1, 1) := by decide +kernel
theorem dX9_law_1 : decode cX9_law 1 = .ok (.i2l, 1) := by decide +kernel
theorem dX9_law_2 : decode cX9_law 2 = .ok (.lconst 0, 1) := by decide +kernel
theorem dX9_law_3 : decode cX9_law 3 = .ok (.lconst 1, 1) := by decide +kernel
theorem dX9_law_4 : decode cX9_law 4 = .ok (.invokestatic 63, 3) := by decide +kernel
theorem dX9_law_7 : decode cX9_law 7 = .ok (.ifCond .ne 5, 3) := by decide +kernel
theorem dX9_law_10 : decode cX9_law 10 = .ok (.iconst (-1), 1) := by decide +kernel
theorem dX9_law_11 : decode cX9_law 11 = .ok (.ireturn, 1) := by decide +kernel
theorem dX9_law_12 : decode cX9_law 12 = .ok (.aload_n 0, 1) := by decide +kernel
theorem dX9_law_13 : decode cX9_law 13 = .ok (.getfield 7, 3) := by decide +kernel
theorem dX9_law_16 : decode cX9_law 16 = .ok (.bipush 91, 2) := by decide +kernel
theorem dX9_law_18 : decode cX9_law 18 = .ok (.iaload, 1) := by decide +kernel
theorem dX9_law_19 : decode cX9_law 19 = .ok (.istore_n 2, 1) := by decide +kernel
theorem dX9_law_20 : decode cX9_law 20 = .ok (.aload_n 0, 1) := by decide +kernel
theorem dX9_law_21 : decode cX9_law 21 = .ok (.getfield 7, 3) := by decide +kernel
theorem dX9_law_24 : decode cX9_law 24 = .ok (.bipush 91, 2) := by decide +kernel
theorem dX9_law_26 : decode cX9_law 26 = .ok (.iload_n 1, 1) := by decide +kernel
theorem dX9_law_27 : decode cX9_law 27 = .ok (.iastore, 1) := by decide +kernel
theorem dX9_law_28 : decode cX9_law 28 = .ok (.iload_n 2, 1) := by decide +kernel
theorem dX9_law_29 : decode cX9_law 29 = .ok (.ireturn, 1) := by decide +kernel
set_option maxRecDepth 20000 in
theorem ggX9_counters_X9_in : GoodIn wsX9_counters wsX9_in := goodIn_r _ [6] (by decide +kernel) (by decide +kernel)
set_option maxRecDepth 20000 in
theorem gX9_counters_X9_in : GoodIn wsX9_counters (va_wsS RX9 63 yX9_in wsX9_in) := goodIn_app (goodIn_of _ (by decide +kernel)) ggX9_counters_X9_in
theorem dX9_counters_0 : decode cX9_counters 0 = .ok (.iload_n 1, 1) := by decide +kernel
theorem dX9_counters_1 : decode cX9_counters 1 = .ok (.i2l, 1) := by decide +kernel
theorem dX9_counters_2 : decode cX9_counters 2 = .ok (.lconst 1, 1) := by decide +kernel
theorem dX9_counters_3 : decode cX9_counters 3 = .ok (.ldc2_w 169, 3) := by decide +kernel
theorem dX9_counters_6 : decode cX9_counters 6 = .ok (.invokestatic 63, 3) := by decide +kernel
theorem dX9_counters_9 : decode cX9_counters 9 = .ok (.ifCond .ne 5, 3) := by decide +kernel
theorem dX9_counters_12 : decode cX9_counters 12 = .ok (.iconst (-1), 1) := by decide +kernel
theorem dX9_counters_13 : decode cX9_counters 13 = .ok (.ireturn, 1) := by decide +kernel
theorem dX9_counters_14 : decode cX9_counters 14 = .ok (.iconst 1, 1) := by decide +kernel
theorem dX9_counters_15 : decode cX9_counters 15 = .ok (.aload_n 0, 1) := by decide +kernel
theorem dX9_counters_16 : decode cX9_counters 16 = .ok (.getfield 7, 3) := by decide +kernel
theorem dX9_counters_19 : decode cX9_counters 19 = .ok (.bipush 92, 2) := by decide +kernel
theorem dX9_counters_21 : decode cX9_counters 21 = .ok (.iaload, 1) := by decide +kernel
theorem dX9_counters_22 : decode cX9_counters 22 = .ok (.iadd, 1) := by decide +kernel
theorem dX9_counters_23 : decode cX9_counters 23 = .ok (.istore_n 2, 1) := by decide +kernel
theorem dX9_counters_24 : decode cX9_counters 24 = .ok (.aload_n 0, 1) := by decide +kernel
theorem dX9_counters_25 : decode cX9_counters 25 = .ok (.getfield 7, 3) := by decide +kernel
theorem dX9_counters_28 : decode cX9_counters 28 = .ok (.bipush 92, 2) := by decide +kernel
theorem dX9_counters_30 : decode cX9_counters 30 = .ok (.iload_n 1, 1) := by decide +kernel
theorem dX9_counters_31 : decode cX9_counters 31 = .ok (.iconst 1, 1) := by decide +kernel
theorem dX9_counters_32 : decode cX9_counters 32 = .ok (.isub, 1) := by decide +kernel
theorem dX9_counters_33 : decode cX9_counters 33 = .ok (.iastore, 1) := by decide +kernel
theorem dX9_counters_34 : decode cX9_counters 34 = .ok (.iload_n 2, 1) := by decide +kernel
theorem dX9_counters_35 : decode cX9_counters 35 = .ok (.ireturn, 1) := by decide +kernel
set_option maxRecDepth 20000 in
theorem ggX9_comes_X9_isOne : GoodIn wsX9_comes wsX9_isOne := goodIn_r _ [7, 8, 9, 10, 6, 11, 2, 12, 13, 14, 15, 16, 17, 18, 19, 20, 21, 22, 23, 24, 25, 26, 27, 28, 29, 30, 31, 32, 33, 34, 35, 36, 37, 38, 39, 40, 41, 42, 43, 44, 45, 46, 47, 48] (by decide +kernel) (by decide +kernel)
set_option maxRecDepth 20000 in
theorem gX9_comes_X9_isOne : GoodIn wsX9_comes (wsV RX9 148 RX9 yX9_isOne wsX9_isOne) := goodIn_app (goodIn_of _ (by decide +kernel)) ggX9_comes_X9_isOne
set_option maxRecDepth 20000 in
theorem ggX9_comes_X9_in : GoodIn wsX9_comes wsX9_in := goodIn_r _ [14] (by decide +kernel) (by decide +kernel)
set_option maxRecDepth 20000 in
theorem gX9_comes_X9_in : GoodIn wsX9_comes (va_wsS RX9 63 yX9_in wsX9_in) := goodIn_app (goodIn_of _ (by decide +kernel)) ggX9_comes_X9_in
theorem dX9_comes_0 : decode cX9_comes 0 = .ok (.aload_n 0, 1) := by decide +kernel
theorem dX9_comes_1 : decode cX9_comes 1 = .ok (.iload_n 1, 1) := by decide +kernel
theorem dX9_comes_2 : decode cX9_comes 2 = .ok (.invokevirtual 148, 3) := by decide +kernel
theorem dX9_comes_5 : decode cX9_comes 5 = .ok (.ifCond .eq 15, 3) := by decide +kernel
theorem dX9_comes_8 : decode cX9_comes 8 = .ok (.iload_n 2, 1) := by decide +kernel
theorem dX9_comes_9 : decode cX9_comes 9 = .ok (.i2l, 1) := by decide +kernel
theorem dX9_comes_10 : decode cX9_comes 10 = .ok (.lconst 0, 1) := by decide +kernel
theorem dX9_comes_11 : decode cX9_comes 11 = .ok (.ldc2_w 171, 3) := by decide +kernel
theorem dX9_comes_14 : decode cX9_comes 14 = .ok (.invokestatic 63, 3) := by decide +kernel
theorem dX9_comes_17 : decode cX9_comes 17 = .ok (.ifCond .ne 5, 3) := by decide +kernel
theorem dX9_comes_20 : decode cX9_comes 20 = .ok (.iconst (-1), 1) := by decide +kernel
theorem dX9_comes_21 : decode cX9_comes 21 = .ok (.ireturn, 1) := by decide +kernel
theorem dX9_comes_22 : decode cX9_comes 22 = .ok (.aload_n 0, 1) := by decide +kernel
theorem dX9_comes_23 : decode cX9_comes 23 = .ok (.getfield 7, 3) := by decide +kernel
theorem dX9_comes_26 : decode cX9_comes 26 = .ok (.bipush 6, 2) := by decide +kernel
theorem dX9_comes_28 : decode cX9_comes 28 = .ok (.iload_n 1, 1) := by decide +kernel
theorem dX9_comes_29 : decode cX9_comes 29 = .ok (.imul, 1) := by decide +kernel
theorem dX9_comes_30 : decode cX9_comes 30 = .ok (.iconst 1, 1) := by decide +kernel
theorem dX9_comes_31 : decode cX9_comes 31 = .ok (.iadd, 1) := by decide +kernel
theorem dX9_comes_32 : decode cX9_comes 32 = .ok (.iaload, 1) := by decide +kernel
theorem dX9_comes_33 : decode cX9_comes 33 = .ok (.istore_n 3, 1) := by decide +kernel
theorem dX9_comes_34 : decode cX9_comes 34 = .ok (.aload_n 0, 1) := by decide +kernel
theorem dX9_comes_35 : decode cX9_comes 35 = .ok (.getfield 7, 3) := by decide +kernel
theorem dX9_comes_38 : decode cX9_comes 38 = .ok (.bipush 6, 2) := by decide +kernel
theorem dX9_comes_40 : decode cX9_comes 40 = .ok (.iload_n 1, 1) := by decide +kernel
theorem dX9_comes_41 : decode cX9_comes 41 = .ok (.imul, 1) := by decide +kernel
theorem dX9_comes_42 : decode cX9_comes 42 = .ok (.iconst 1, 1) := by decide +kernel
theorem dX9_comes_43 : decode cX9_comes 43 = .ok (.iadd, 1) := by decide +kernel
theorem dX9_comes_44 : decode cX9_comes 44 = .ok (.iload_n 2, 1) := by decide +kernel
theorem dX9_comes_45 : decode cX9_comes 45 = .ok (.iastore, 1) := by decide +kernel
theorem dX9_comes_46 : decode cX9_comes 46 = .ok (.iload_n 3, 1) := by decide +kernel
theorem dX9_comes_47 : decode cX9_comes 47 = .ok (.ireturn, 1) := by decide +kernel
set_option maxRecDepth 20000 in
theorem ggX9_debts_X9_areTwo : GoodIn wsX9_debts wsX9_areTwo := goodIn_r _ [7, 8, 9, 10, 6, 11, 12, 13, 14, 15, 2, 16, 17, 18, 22, 23, 24, 25, 26, 27, 28, 29, 30, 31, 32, 33, 34, 35, 36, 37, 38, 39, 40, 41, 42, 43, 44, 45, 46, 47, 48, 49, 50, 51, 52, 53, 54, 55] (by decide +kernel) (by decide +kernel)
set_option maxRecDepth 20000 in
theorem gX9_debts_X9_areTwo : GoodIn wsX9_debts (wsV RX9 154 RX9 yX9_areTwo wsX9_areTwo) := goodIn_app (goodIn_of _ (by decide +kernel)) ggX9_debts_X9_areTwo
set_option maxRecDepth 20000 in
theorem ggX9_debts_X9_in : GoodIn wsX9_debts wsX9_in := goodIn_r _ [18] (by decide +kernel) (by decide +kernel)
set_option maxRecDepth 20000 in
theorem gX9_debts_X9_in : GoodIn wsX9_debts (va_wsS RX9 63 yX9_in wsX9_in) := goodIn_app (goodIn_of _ (by decide +kernel)) ggX9_debts_X9_in
set_option maxRecDepth 20000 in
theorem ggX9_debts_X9_debtAt : GoodIn wsX9_debts wsX9_debtAt := goodIn_r _ [21] (by decide +kernel) (by decide +kernel)
set_option maxRecDepth 20000 in
theorem gX9_debts_X9_debtAt : GoodIn wsX9_debts (va_wsS RX9 158 yX9_debtAt wsX9_debtAt) := goodIn_app (goodIn_of _ (by decide +kernel)) ggX9_debts_X9_debtAt
theorem dX9_debts_0 : decode cX9_debts 0 = .ok (.aload_n 0, 1) := by decide +kernel
theorem dX9_debts_1 : decode cX9_debts 1 = .ok (.iload_n 1, 1) := by decide +kernel
theorem dX9_debts_2 : decode cX9_debts 2 = .ok (.iload_n 2, 1) := by decide +kernel
theorem dX9_debts_3 : decode cX9_debts 3 = .ok (.invokevirtual 154, 3) := by decide +kernel
theorem dX9_debts_6 : decode cX9_debts 6 = .ok (.ifCond .eq 15, 3) := by decide +kernel
theorem dX9_debts_9 : decode cX9_debts 9 = .ok (.iload_n 3, 1) := by decide +kernel
theorem dX9_debts_10 : decode cX9_debts 10 = .ok (.i2l, 1) := by decide +kernel
theorem dX9_debts_11 : decode cX9_debts 11 = .ok (.lconst 0, 1) := by decide +kernel
theorem dX9_debts_12 : decode cX9_debts 12 = .ok (.ldc2_w 173, 3) := by decide +kernel
theorem dX9_debts_15 : decode cX9_debts 15 = .ok (.invokestatic 63, 3) := by decide +kernel
theorem dX9_debts_18 : decode cX9_debts 18 = .ok (.ifCond .ne 5, 3) := by decide +kernel
theorem dX9_debts_21 : decode cX9_debts 21 = .ok (.iconst (-1), 1) := by decide +kernel
theorem dX9_debts_22 : decode cX9_debts 22 = .ok (.ireturn, 1) := by decide +kernel
theorem dX9_debts_23 : decode cX9_debts 23 = .ok (.aload_n 0, 1) := by decide +kernel
theorem dX9_debts_24 : decode cX9_debts 24 = .ok (.getfield 7, 3) := by decide +kernel
theorem dX9_debts_27 : decode cX9_debts 27 = .ok (.iload_n 1, 1) := by decide +kernel
theorem dX9_debts_28 : decode cX9_debts 28 = .ok (.iload_n 2, 1) := by decide +kernel
theorem dX9_debts_29 : decode cX9_debts 29 = .ok (.invokestatic 158, 3) := by decide +kernel
theorem dX9_debts_32 : decode cX9_debts 32 = .ok (.iaload, 1) := by decide +kernel
theorem dX9_debts_33 : decode cX9_debts 33 = .ok (.istore 4, 2) := by decide +kernel
theorem dX9_debts_35 : decode cX9_debts 35 = .ok (.aload_n 0, 1) := by decide +kernel
theorem dX9_debts_36 : decode cX9_debts 36 = .ok (.getfield 7, 3) := by decide +kernel
theorem dX9_debts_39 : decode cX9_debts 39 = .ok (.iload_n 1, 1) := by decide +kernel
theorem dX9_debts_40 : decode cX9_debts 40 = .ok (.iload_n 2, 1) := by decide +kernel
theorem dX9_debts_41 : decode cX9_debts 41 = .ok (.invokestatic 158, 3) := by decide +kernel
theorem dX9_debts_44 : decode cX9_debts 44 = .ok (.iload_n 3, 1) := by decide +kernel
theorem dX9_debts_45 : decode cX9_debts 45 = .ok (.iastore, 1) := by decide +kernel
theorem dX9_debts_46 : decode cX9_debts 46 = .ok (.iload 4, 2) := by decide +kernel
theorem dX9_debts_48 : decode cX9_debts 48 = .ok (.ireturn, 1) := by decide +kernel
set_option maxRecDepth 20000 in
theorem ggX9_debt_X9_debts : GoodIn wsX9_debt wsX9_debts := goodIn_r _ [5, 6, 7, 8, 9, 10, 4, 11, 12, 13, 14, 15, 16, 17, 18, 19, 20, 21, 22, 23, 24, 25, 26, 27, 28, 29, 30, 31, 32, 33, 34, 35, 36, 37, 38, 39, 40, 41, 42, 43, 44, 45, 46, 47, 48, 49, 50, 51, 52, 53, 54, 55, 56, 57, 58, 59] (by decide +kernel) (by decide +kernel)
set_option maxRecDepth 20000 in
theorem gX9_debt_X9_debts : GoodIn wsX9_debt (wsV RX9 175 RX9 yX9_debts wsX9_debts) := goodIn_app (goodIn_of _ (by decide +kernel)) ggX9_debt_X9_debts
theorem dX9_debt_0 : decode cX9_debt 0 = .ok (.aload_n 0, 1) := by decide +kernel
theorem dX9_debt_1 : decode cX9_debt 1 = .ok (.iload_n 1, 1) := by decide +kernel
theorem dX9_debt_2 : decode cX9_debt 2 = .ok (.iload_n 2, 1) := by decide +kernel
theorem dX9_debt_3 : decode cX9_debt 3 = .ok (.iload_n 3, 1) := by decide +kernel
theorem dX9_debt_4 : decode cX9_debt 4 = .ok (.invokevirtual 175, 3) := by decide +kernel
theorem dX9_debt_7 : decode cX9_debt 7 = .ok (.ireturn, 1) := by decide +kernel
theorem dX9_gives_0 : decode cX9_gives 0 = .ok (.aload_n 0, 1) := by decide +kernel
theorem dX9_gives_1 : decode cX9_gives 1 = .ok (.getfield 7, 3) := by decide +kernel
theorem dX9_gives_4 : decode cX9_gives 4 = .ok (.iload_n 1, 1) := by decide +kernel
theorem dX9_gives_5 : decode cX9_gives 5 = .ok (.bipush 6, 2) := by decide +kernel
theorem dX9_gives_7 : decode cX9_gives 7 = .ok (.iload_n 2, 1) := by decide +kernel
theorem dX9_gives_8 : decode cX9_gives 8 = .ok (.imul, 1) := by decide +kernel
theorem dX9_gives_9 : decode cX9_gives 9 = .ok (.iadd, 1) := by decide +kernel

theorem dX4_init_0 : decode cX4_init 0 = .ok (.aload_n 0, 1) := by decide +kernel
theorem dX4_init_1 : decode cX4_init 1 = .ok (.invokespecial 1, 3) := by decide +kernel
theorem dX4_init_4 : decode cX4_init 4 = .ok (.aload_n 0, 1) := by decide +kernel
theorem dX4_init_5 : decode cX4_init 5 = .ok (.sipush 132, 3) := by decide +kernel
theorem dX4_init_8 : decode cX4_init 8 = .ok (.newarray .int, 2) := by decide +kernel
theorem dX4_init_10 : decode cX4_init 10 = .ok (.putfield 7, 3) := by decide +kernel
theorem dX4_init_13 : decode cX4_init 13 = .ok (.aload_n 0, 1) := by decide +kernel
theorem dX4_init_14 : decode cX4_init 14 = .ok (.bipush 33, 2) := by decide +kernel
theorem dX4_init_16 : decode cX4_init 16 = .ok (.newarray .int, 2) := by decide +kernel
theorem dX4_init_18 : decode cX4_init 18 = .ok (.putfield 13, 3) := by decide +kernel
theorem dX4_init_21 : decode cX4_init 21 = .ok (.aload_n 0, 1) := by decide +kernel
theorem dX4_init_22 : decode cX4_init 22 = .ok (.sipush 160, 3) := by decide +kernel
theorem dX4_init_25 : decode cX4_init 25 = .ok (.newarray .int, 2) := by decide +kernel
theorem dX4_init_27 : decode cX4_init 27 = .ok (.putfield 16, 3) := by decide +kernel
theorem dX4_init_30 : decode cX4_init 30 = .ok (.aload_n 0, 1) := by decide +kernel
theorem dX4_init_31 : decode cX4_init 31 = .ok (.bipush 9, 2) := by decide +kernel
theorem dX4_init_33 : decode cX4_init 33 = .ok (.newarray .int, 2) := by decide +kernel
theorem dX4_init_35 : decode cX4_init 35 = .ok (.dup, 1) := by decide +kernel
theorem dX4_init_36 : decode cX4_init 36 = .ok (.iconst 0, 1) := by decide +kernel
theorem dX4_init_37 : decode cX4_init 37 = .ok (.iconst 0, 1) := by decide +kernel
theorem dX4_init_38 : decode cX4_init 38 = .ok (.iastore, 1) := by decide +kernel
theorem dX4_init_39 : decode cX4_init 39 = .ok (.dup, 1) := by decide +kernel
theorem dX4_init_40 : decode cX4_init 40 = .ok (.iconst 1, 1) := by decide +kernel
theorem dX4_init_41 : decode cX4_init 41 = .ok (.bipush 7, 2) := by decide +kernel
theorem dX4_init_43 : decode cX4_init 43 = .ok (.iastore, 1) := by decide +kernel
theorem dX4_init_44 : decode cX4_init 44 = .ok (.dup, 1) := by decide +kernel
theorem dX4_init_45 : decode cX4_init 45 = .ok (.iconst 2, 1) := by decide +kernel
theorem dX4_init_46 : decode cX4_init 46 = .ok (.bipush 14, 2) := by decide +kernel
theorem dX4_init_48 : decode cX4_init 48 = .ok (.iastore, 1) := by decide +kernel
theorem dX4_init_49 : decode cX4_init 49 = .ok (.dup, 1) := by decide +kernel
theorem dX4_init_50 : decode cX4_init 50 = .ok (.iconst 3, 1) := by decide +kernel
theorem dX4_init_51 : decode cX4_init 51 = .ok (.bipush 19, 2) := by decide +kernel
theorem dX4_init_53 : decode cX4_init 53 = .ok (.iastore, 1) := by decide +kernel
theorem dX4_init_54 : decode cX4_init 54 = .ok (.dup, 1) := by decide +kernel
theorem dX4_init_55 : decode cX4_init 55 = .ok (.iconst 4, 1) := by decide +kernel
theorem dX4_init_56 : decode cX4_init 56 = .ok (.bipush 24, 2) := by decide +kernel
theorem dX4_init_58 : decode cX4_init 58 = .ok (.iastore, 1) := by decide +kernel
theorem dX4_init_59 : decode cX4_init 59 = .ok (.dup, 1) := by decide +kernel
theorem dX4_init_60 : decode cX4_init 60 = .ok (.iconst 5, 1) := by decide +kernel
theorem dX4_init_61 : decode cX4_init 61 = .ok (.bipush 29, 2) := by decide +kernel
theorem dX4_init_63 : decode cX4_init 63 = .ok (.iastore, 1) := by decide +kernel
theorem dX4_init_64 : decode cX4_init 64 = .ok (.dup, 1) := by decide +kernel
theorem dX4_init_65 : decode cX4_init 65 = .ok (.bipush 6, 2) := by decide +kernel
theorem dX4_init_67 : decode cX4_init 67 = .ok (.bipush 33, 2) := by decide +kernel
theorem dX4_init_69 : decode cX4_init 69 = .ok (.iastore, 1) := by decide +kernel
theorem dX4_init_70 : decode cX4_init 70 = .ok (.dup, 1) := by decide +kernel
theorem dX4_init_71 : decode cX4_init 71 = .ok (.bipush 7, 2) := by decide +kernel
theorem dX4_init_73 : decode cX4_init 73 = .ok (.bipush 37, 2) := by decide +kernel
theorem dX4_init_75 : decode cX4_init 75 = .ok (.iastore, 1) := by decide +kernel
theorem dX4_init_76 : decode cX4_init 76 = .ok (.dup, 1) := by decide +kernel
theorem dX4_init_77 : decode cX4_init 77 = .ok (.bipush 8, 2) := by decide +kernel
theorem dX4_init_79 : decode cX4_init 79 = .ok (.bipush 42, 2) := by decide +kernel
theorem dX4_init_81 : decode cX4_init 81 = .ok (.iastore, 1) := by decide +kernel
theorem dX4_init_82 : decode cX4_init 82 = .ok (.putfield 19, 3) := by decide +kernel
theorem dX4_init_85 : decode cX4_init 85 = .ok (.aload_n 0, 1) := by decide +kernel
theorem dX4_init_86 : decode cX4_init 86 = .ok (.bipush 42, 2) := by decide +kernel
theorem dX4_init_88 : decode cX4_init 88 = .ok (.newarray .int, 2) := by decide +kernel
theorem dX4_init_90 : decode cX4_init 90 = .ok (.dup, 1) := by decide +kernel
theorem dX4_init_91 : decode cX4_init 91 = .ok (.iconst 0, 1) := by decide +kernel
theorem dX4_init_92 : decode cX4_init 92 = .ok (.bipush 117, 2) := by decide +kernel
theorem dX4_init_94 : decode cX4_init 94 = .ok (.iastore, 1) := by decide +kernel
theorem dX4_init_95 : decode cX4_init 95 = .ok (.dup, 1) := by decide +kernel
theorem dX4_init_96 : decode cX4_init 96 = .ok (.iconst 1, 1) := by decide +kernel
theorem dX4_init_97 : decode cX4_init 97 = .ok (.bipush 112, 2) := by decide +kernel
theorem dX4_init_99 : decode cX4_init 99 = .ok (.iastore, 1) := by decide +kernel
theorem dX4_init_100 : decode cX4_init 100 = .ok (.dup, 1) := by decide +kernel
theorem dX4_init_101 : decode cX4_init 101 = .ok (.iconst 2, 1) := by decide +kernel
theorem dX4_init_102 : decode cX4_init 102 = .ok (.bipush 114, 2) := by decide +kernel
theorem dX4_init_104 : decode cX4_init 104 = .ok (.iastore, 1) := by decide +kernel
theorem dX4_init_105 : decode cX4_init 105 = .ok (.dup, 1) := by decide +kernel
theorem dX4_init_106 : decode cX4_init 106 = .ok (.iconst 3, 1) := by decide +kernel
theorem dX4_init_107 : decode cX4_init 107 = .ok (.bipush 105, 2) := by decide +kernel
theorem dX4_init_109 : decode cX4_init 109 = .ok (.iastore, 1) := by decide +kernel
theorem dX4_init_110 : decode cX4_init 110 = .ok (.dup, 1) := by decide +kernel
theorem dX4_init_111 : decode cX4_init 111 = .ok (.iconst 4, 1) := by decide +kernel
theorem dX4_init_112 : decode cX4_init 112 = .ok (.bipush 103, 2) := by decide +kernel
theorem dX4_init_114 : decode cX4_init 114 = .ok (.iastore, 1) := by decide +kernel
theorem dX4_init_115 : decode cX4_init 115 = .ok (.dup, 1) := by decide +kernel
theorem dX4_init_116 : decode cX4_init 116 = .ok (.iconst 5, 1) := by decide +kernel
theorem dX4_init_117 : decode cX4_init 117 = .ok (.bipush 104, 2) := by decide +kernel
theorem dX4_init_119 : decode cX4_init 119 = .ok (.iastore, 1) := by decide +kernel
theorem dX4_init_120 : decode cX4_init 120 = .ok (.dup, 1) := by decide +kernel
theorem dX4_init_121 : decode cX4_init 121 = .ok (.bipush 6, 2) := by decide +kernel
theorem dX4_init_123 : decode cX4_init 123 = .ok (.bipush 116, 2) := by decide +kernel
theorem dX4_init_125 : decode cX4_init 125 = .ok (.iastore, 1) := by decide +kernel
theorem dX4_init_126 : decode cX4_init 126 = .ok (.dup, 1) := by decide +kernel
theorem dX4_init_127 : decode cX4_init 127 = .ok (.bipush 7, 2) := by decide +kernel
theorem dX4_init_129 : decode cX4_init 129 = .ok (.bipush 115, 2) := by decide +kernel
theorem dX4_init_131 : decode cX4_init 131 = .ok (.iastore, 1) := by decide +kernel
theorem dX4_init_132 : decode cX4_init 132 = .ok (.dup, 1) := by decide +kernel
theorem dX4_init_133 : decode cX4_init 133 = .ok (.bipush 8, 2) := by decide +kernel
theorem dX4_init_135 : decode cX4_init 135 = .ok (.bipush 116, 2) := by decide +kernel
theorem dX4_init_137 : decode cX4_init 137 = .ok (.iastore, 1) := by decide +kernel
theorem dX4_init_138 : decode cX4_init 138 = .ok (.dup, 1) := by decide +kernel
theorem dX4_init_139 : decode cX4_init 139 = .ok (.bipush 9, 2) := by decide +kernel
theorem dX4_init_141 : decode cX4_init 141 = .ok (.bipush 111, 2) := by decide +kernel
theorem dX4_init_143 : decode cX4_init 143 = .ok (.iastore, 1) := by decide +kernel
theorem dX4_init_144 : decode cX4_init 144 = .ok (.dup, 1) := by decide +kernel
theorem dX4_init_145 : decode cX4_init 145 = .ok (.bipush 10, 2) := by decide +kernel
theorem dX4_init_147 : decode cX4_init 147 = .ok (.bipush 111, 2) := by decide +kernel
theorem dX4_init_149 : decode cX4_init 149 = .ok (.iastore, 1) := by decide +kernel
theorem dX4_init_150 : decode cX4_init 150 = .ok (.dup, 1) := by decide +kernel
theorem dX4_init_151 : decode cX4_init 151 = .ok (.bipush 11, 2) := by decide +kernel
theorem dX4_init_153 : decode cX4_init 153 = .ok (.bipush 112, 2) := by decide +kernel
theorem dX4_init_155 : decode cX4_init 155 = .ok (.iastore, 1) := by decide +kernel
theorem dX4_init_156 : decode cX4_init 156 = .ok (.dup, 1) := by decide +kernel
theorem dX4_init_157 : decode cX4_init 157 = .ok (.bipush 12, 2) := by decide +kernel
theorem dX4_init_159 : decode cX4_init 159 = .ok (.bipush 101, 2) := by decide +kernel
theorem dX4_init_161 : decode cX4_init 161 = .ok (.iastore, 1) := by decide +kernel
theorem dX4_init_162 : decode cX4_init 162 = .ok (.dup, 1) := by decide +kernel
theorem dX4_init_163 : decode cX4_init 163 = .ok (.bipush 13, 2) := by decide +kernel
theorem dX4_init_165 : decode cX4_init 165 = .ok (.bipush 100, 2) := by decide +kernel
theorem dX4_init_167 : decode cX4_init 167 = .ok (.iastore, 1) := by decide +kernel
theorem dX4_init_168 : decode cX4_init 168 = .ok (.dup, 1) := by decide +kernel
theorem dX4_init_169 : decode cX4_init 169 = .ok (.bipush 14, 2) := by decide +kernel
theorem dX4_init_171 : decode cX4_init 171 = .ok (.bipush 116, 2) := by decide +kernel
theorem dX4_init_173 : decode cX4_init 173 = .ok (.iastore, 1) := by decide +kernel
theorem dX4_init_174 : decode cX4_init 174 = .ok (.dup, 1) := by decide +kernel
theorem dX4_init_175 : decode cX4_init 175 = .ok (.bipush 15, 2) := by decide +kernel
theorem dX4_init_177 : decode cX4_init 177 = .ok (.bipush 105, 2) := by decide +kernel
theorem dX4_init_179 : decode cX4_init 179 = .ok (.iastore, 1) := by decide +kernel
theorem dX4_init_180 : decode cX4_init 180 = .ok (.dup, 1) := by decide +kernel
theorem dX4_init_181 : decode cX4_init 181 = .ok (.bipush 16, 2) := by decide +kernel
theorem dX4_init_183 : decode cX4_init 183 = .ok (.bipush 114, 2) := by decide +kernel
theorem dX4_init_185 : decode cX4_init 185 = .ok (.iastore, 1) := by decide +kernel
theorem dX4_init_186 : decode cX4_init 186 = .ok (.dup, 1) := by decide +kernel
theorem dX4_init_187 : decode cX4_init 187 = .ok (.bipush 17, 2) := by decide +kernel
theorem dX4_init_189 : decode cX4_init 189 = .ok (.bipush 101, 2) := by decide +kernel
theorem dX4_init_191 : decode cX4_init 191 = .ok (.iastore, 1) := by decide +kernel
theorem dX4_init_192 : decode cX4_init 192 = .ok (.dup, 1) := by decide +kernel
theorem dX4_init_193 : decode cX4_init 193 = .ok (.bipush 18, 2) := by decide +kernel
theorem dX4_init_195 : decode cX4_init 195 = .ok (.bipush 100, 2) := by decide +kernel
theorem dX4_init_197 : decode cX4_init 197 = .ok (.iastore, 1) := by decide +kernel
theorem dX4_init_198 : decode cX4_init 198 = .ok (.dup, 1) := by decide +kernel
theorem dX4_init_199 : decode cX4_init 199 = .ok (.bipush 19, 2) := by decide +kernel
theorem dX4_init_201 : decode cX4_init 201 = .ok (.bipush 108, 2) := by decide +kernel
theorem dX4_init_203 : decode cX4_init 203 = .ok (.iastore, 1) := by decide +kernel
theorem dX4_init_204 : decode cX4_init 204 = .ok (.dup, 1) := by decide +kernel
theorem dX4_init_205 : decode cX4_init 205 = .ok (.bipush 20, 2) := by decide +kernel
theorem dX4_init_207 : decode cX4_init 207 = .ok (.bipush 111, 2) := by decide +kernel
theorem dX4_init_209 : decode cX4_init 209 = .ok (.iastore, 1) := by decide +kernel
theorem dX4_init_210 : decode cX4_init 210 = .ok (.dup, 1) := by decide +kernel
theorem dX4_init_211 : decode cX4_init 211 = .ok (.bipush 21, 2) := by decide +kernel
theorem dX4_init_213 : decode cX4_init 213 = .ok (.bipush 118, 2) := by decide +kernel
theorem dX4_init_215 : decode cX4_init 215 = .ok (.iastore, 1) := by decide +kernel
theorem dX4_init_216 : decode cX4_init 216 = .ok (.dup, 1) := by decide +kernel
theorem dX4_init_217 : decode cX4_init 217 = .ok (.bipush 22, 2) := by decide +kernel
theorem dX4_init_219 : decode cX4_init 219 = .ok (.bipush 101, 2) := by decide +kernel
theorem dX4_init_221 : decode cX4_init 221 = .ok (.iastore, 1) := by decide +kernel
theorem dX4_init_222 : decode cX4_init 222 = .ok (.dup, 1) := by decide +kernel
theorem dX4_init_223 : decode cX4_init 223 = .ok (.bipush 23, 2) := by decide +kernel
theorem dX4_init_225 : decode cX4_init 225 = .ok (.bipush 114, 2) := by decide +kernel
theorem dX4_init_227 : decode cX4_init 227 = .ok (.iastore, 1) := by decide +kernel
theorem dX4_init_228 : decode cX4_init 228 = .ok (.dup, 1) := by decide +kernel
theorem dX4_init_229 : decode cX4_init 229 = .ok (.bipush 24, 2) := by decide +kernel
theorem dX4_init_231 : decode cX4_init 231 = .ok (.bipush 99, 2) := by decide +kernel
theorem dX4_init_233 : decode cX4_init 233 = .ok (.iastore, 1) := by decide +kernel
theorem dX4_init_234 : decode cX4_init 234 = .ok (.dup, 1) := by decide +kernel
theorem dX4_init_235 : decode cX4_init 235 = .ok (.bipush 25, 2) := by decide +kernel
theorem dX4_init_237 : decode cX4_init 237 = .ok (.bipush 108, 2) := by decide +kernel
theorem dX4_init_239 : decode cX4_init 239 = .ok (.iastore, 1) := by decide +kernel
theorem dX4_init_240 : decode cX4_init 240 = .ok (.dup, 1) := by decide +kernel
theorem dX4_init_241 : decode cX4_init 241 = .ok (.bipush 26, 2) := by decide +kernel
theorem dX4_init_243 : decode cX4_init 243 = .ok (.bipush 111, 2) := by decide +kernel
theorem dX4_init_245 : decode cX4_init 245 = .ok (.iastore, 1) := by decide +kernel
theorem dX4_init_246 : decode cX4_init 246 = .ok (.dup, 1) := by decide +kernel
theorem dX4_init_247 : decode cX4_init 247 = .ok (.bipush 27, 2) := by decide +kernel
theorem dX4_init_249 : decode cX4_init 249 = .ok (.bipush 117, 2) := by decide +kernel
theorem dX4_init_251 : decode cX4_init 251 = .ok (.iastore, 1) := by decide +kernel
theorem dX4_init_252 : decode cX4_init 252 = .ok (.dup, 1) := by decide +kernel
theorem dX4_init_253 : decode cX4_init 253 = .ok (.bipush 28, 2) := by decide +kernel
theorem dX4_init_255 : decode cX4_init 255 = .ok (.bipush 100, 2) := by decide +kernel
theorem dX4_init_257 : decode cX4_init 257 = .ok (.iastore, 1) := by decide +kernel
theorem dX4_init_258 : decode cX4_init 258 = .ok (.dup, 1) := by decide +kernel
theorem dX4_init_259 : decode cX4_init 259 = .ok (.bipush 29, 2) := by decide +kernel
theorem dX4_init_261 : decode cX4_init 261 = .ok (.bipush 100, 2) := by decide +kernel
theorem dX4_init_263 : decode cX4_init 263 = .ok (.iastore, 1) := by decide +kernel
theorem dX4_init_264 : decode cX4_init 264 = .ok (.dup, 1) := by decide +kernel
theorem dX4_init_265 : decode cX4_init 265 = .ok (.bipush 30, 2) := by decide +kernel
theorem dX4_init_267 : decode cX4_init 267 = .ok (.bipush 101, 2) := by decide +kernel
theorem dX4_init_269 : decode cX4_init 269 = .ok (.iastore, 1) := by decide +kernel
theorem dX4_init_270 : decode cX4_init 270 = .ok (.dup, 1) := by decide +kernel
theorem dX4_init_271 : decode cX4_init 271 = .ok (.bipush 31, 2) := by decide +kernel
theorem dX4_init_273 : decode cX4_init 273 = .ok (.bipush 101, 2) := by decide +kernel
theorem dX4_init_275 : decode cX4_init 275 = .ok (.iastore, 1) := by decide +kernel
theorem dX4_init_276 : decode cX4_init 276 = .ok (.dup, 1) := by decide +kernel
theorem dX4_init_277 : decode cX4_init 277 = .ok (.bipush 32, 2) := by decide +kernel
theorem dX4_init_279 : decode cX4_init 279 = .ok (.bipush 100, 2) := by decide +kernel
theorem dX4_init_281 : decode cX4_init 281 = .ok (.iastore, 1) := by decide +kernel
theorem dX4_init_282 : decode cX4_init 282 = .ok (.dup, 1) := by decide +kernel
theorem dX4_init_283 : decode cX4_init 283 = .ok (.bipush 33, 2) := by decide +kernel
theorem dX4_init_285 : decode cX4_init 285 = .ok (.bipush 114, 2) := by decide +kernel
theorem dX4_init_287 : decode cX4_init 287 = .ok (.iastore, 1) := by decide +kernel
theorem dX4_init_288 : decode cX4_init 288 = .ok (.dup, 1) := by decide +kernel
theorem dX4_init_289 : decode cX4_init 289 = .ok (.bipush 34, 2) := by decide +kernel
theorem dX4_init_291 : decode cX4_init 291 = .ok (.bipush 111, 2) := by decide +kernel
theorem dX4_init_293 : decode cX4_init 293 = .ok (.iastore, 1) := by decide +kernel
theorem dX4_init_294 : decode cX4_init 294 = .ok (.dup, 1) := by decide +kernel
theorem dX4_init_295 : decode cX4_init 295 = .ok (.bipush 35, 2) := by decide +kernel
theorem dX4_init_297 : decode cX4_init 297 = .ok (.bipush 116, 2) := by decide +kernel
theorem dX4_init_299 : decode cX4_init 299 = .ok (.iastore, 1) := by decide +kernel
theorem dX4_init_300 : decode cX4_init 300 = .ok (.dup, 1) := by decide +kernel
theorem dX4_init_301 : decode cX4_init 301 = .ok (.bipush 36, 2) := by decide +kernel
theorem dX4_init_303 : decode cX4_init 303 = .ok (.bipush 97, 2) := by decide +kernel
theorem dX4_init_305 : decode cX4_init 305 = .ok (.iastore, 1) := by decide +kernel
theorem dX4_init_306 : decode cX4_init 306 = .ok (.dup, 1) := by decide +kernel
theorem dX4_init_307 : decode cX4_init 307 = .ok (.bipush 37, 2) := by decide +kernel
theorem dX4_init_309 : decode cX4_init 309 = .ok (.bipush 112, 2) := by decide +kernel
theorem dX4_init_311 : decode cX4_init 311 = .ok (.iastore, 1) := by decide +kernel
theorem dX4_init_312 : decode cX4_init 312 = .ok (.dup, 1) := by decide +kernel
theorem dX4_init_313 : decode cX4_init 313 = .ok (.bipush 38, 2) := by decide +kernel
theorem dX4_init_315 : decode cX4_init 315 = .ok (.bipush 97, 2) := by decide +kernel
theorem dX4_init_317 : decode cX4_init 317 = .ok (.iastore, 1) := by decide +kernel
theorem dX4_init_318 : decode cX4_init 318 = .ok (.dup, 1) := by decide +kernel
theorem dX4_init_319 : decode cX4_init 319 = .ok (.bipush 39, 2) := by decide +kernel
theorem dX4_init_321 : decode cX4_init 321 = .ok (.bipush 105, 2) := by decide +kernel
theorem dX4_init_323 : decode cX4_init 323 = .ok (.iastore, 1) := by decide +kernel
theorem dX4_init_324 : decode cX4_init 324 = .ok (.dup, 1) := by decide +kernel
theorem dX4_init_325 : decode cX4_init 325 = .ok (.bipush 40, 2) := by decide +kernel
theorem dX4_init_327 : decode cX4_init 327 = .ok (.bipush 110, 2) := by decide +kernel
theorem dX4_init_329 : decode cX4_init 329 = .ok (.iastore, 1) := by decide +kernel
theorem dX4_init_330 : decode cX4_init 330 = .ok (.dup, 1) := by decide +kernel
theorem dX4_init_331 : decode cX4_init 331 = .ok (.bipush 41, 2) := by decide +kernel
theorem dX4_init_333 : decode cX4_init 333 = .ok (.bipush 116, 2) := by decide +kernel
theorem dX4_init_335 : decode cX4_init 335 = .ok (.iastore, 1) := by decide +kernel
theorem dX4_init_336 : decode cX4_init 336 = .ok (.putfield 22, 3) := by decide +kernel
theorem dX4_init_339 : decode cX4_init 339 = .ok (.aload_n 0, 1) := by decide +kernel
theorem dX4_init_340 : decode cX4_init 340 = .ok (.bipush 48, 2) := by decide +kernel
theorem dX4_init_342 : decode cX4_init 342 = .ok (.newarray .int, 2) := by decide +kernel
theorem dX4_init_344 : decode cX4_init 344 = .ok (.putfield 25, 3) := by decide +kernel
theorem dX4_init_347 : decode cX4_init 347 = .ok (.aload_n 0, 1) := by decide +kernel
theorem dX4_init_348 : decode cX4_init 348 = .ok (.bipush 12, 2) := by decide +kernel
theorem dX4_init_350 : decode cX4_init 350 = .ok (.newarray .int, 2) := by decide +kernel
theorem dX4_init_352 : decode cX4_init 352 = .ok (.putfield 28, 3) := by decide +kernel
theorem dX4_init_355 : decode cX4_init 355 = .ok (.aload_n 0, 1) := by decide +kernel
theorem dX4_init_356 : decode cX4_init 356 = .ok (.bipush 35, 2) := by decide +kernel
theorem dX4_init_358 : decode cX4_init 358 = .ok (.newarray .int, 2) := by decide +kernel
theorem dX4_init_360 : decode cX4_init 360 = .ok (.putfield 31, 3) := by decide +kernel
theorem dX4_init_363 : decode cX4_init 363 = .ok (.aload_n 0, 1) := by decide +kernel
theorem dX4_init_364 : decode cX4_init 364 = .ok (.iconst 2, 1) := by decide +kernel
theorem dX4_init_365 : decode cX4_init 365 = .ok (.newarray .boolean, 2) := by decide +kernel
theorem dX4_init_367 : decode cX4_init 367 = .ok (.putfield 34, 3) := by decide +kernel
theorem dX4_init_370 : decode cX4_init 370 = .ok (.aload_n 0, 1) := by decide +kernel
theorem dX4_init_371 : decode cX4_init 371 = .ok (.iconst 4, 1) := by decide +kernel
theorem dX4_init_372 : decode cX4_init 372 = .ok (.newarray .int, 2) := by decide +kernel
theorem dX4_init_374 : decode cX4_init 374 = .ok (.dup, 1) := by decide +kernel
theorem dX4_init_375 : decode cX4_init 375 = .ok (.iconst 0, 1) := by decide +kernel
theorem dX4_init_376 : decode cX4_init 376 = .ok (.bipush (-4), 2) := by decide +kernel
theorem dX4_init_378 : decode cX4_init 378 = .ok (.iastore, 1) := by decide +kernel
theorem dX4_init_379 : decode cX4_init 379 = .ok (.dup, 1) := by decide +kernel
theorem dX4_init_380 : decode cX4_init 380 = .ok (.iconst 1, 1) := by decide +kernel
theorem dX4_init_381 : decode cX4_init 381 = .ok (.bipush (-4), 2) := by decide +kernel
theorem dX4_init_383 : decode cX4_init 383 = .ok (.iastore, 1) := by decide +kernel
theorem dX4_init_384 : decode cX4_init 384 = .ok (.dup, 1) := by decide +kernel
theorem dX4_init_385 : decode cX4_init 385 = .ok (.iconst 2, 1) := by decide +kernel
theorem dX4_init_386 : decode cX4_init 386 = .ok (.bipush (-4), 2) := by decide +kernel
theorem dX4_init_388 : decode cX4_init 388 = .ok (.iastore, 1) := by decide +kernel
theorem dX4_init_389 : decode cX4_init 389 = .ok (.dup, 1) := by decide +kernel
theorem dX4_init_390 : decode cX4_init 390 = .ok (.iconst 3, 1) := by decide +kernel
theorem dX4_init_391 : decode cX4_init 391 = .ok (.bipush (-4), 2) := by decide +kernel
theorem dX4_init_393 : decode cX4_init 393 = .ok (.iastore, 1) := by decide +kernel
theorem dX4_init_394 : decode cX4_init 394 = .ok (.putfield 38, 3) := by decide +kernel
theorem dX4_init_397 : decode cX4_init 397 = .ok (.aload_n 0, 1) := by decide +kernel
theorem dX4_init_398 : decode cX4_init 398 = .ok (.iconst 4, 1) := by decide +kernel
theorem dX4_init_399 : decode cX4_init 399 = .ok (.newarray .int, 2) := by decide +kernel
theorem dX4_init_401 : decode cX4_init 401 = .ok (.putfield 41, 3) := by decide +kernel
theorem dX4_init_404 : decode cX4_init 404 = .ok (.aload_n 0, 1) := by decide +kernel
theorem dX4_init_405 : decode cX4_init 405 = .ok (.sipush 160, 3) := by decide +kernel
theorem dX4_init_408 : decode cX4_init 408 = .ok (.newarray .int, 2) := by decide +kernel
theorem dX4_init_410 : decode cX4_init 410 = .ok (.putfield 44, 3) := by decide +kernel
theorem dX4_init_413 : decode cX4_init 413 = .ok (.return_, 1) := by decide +kernel
theorem dX4_in_0 : decode cX4_in 0 = .ok (.lload_n 0, 1) := by decide +kernel
theorem dX4_in_1 : decode cX4_in 1 = .ok (.lload_n 2, 1) := by decide +kernel
theorem dX4_in_2 : decode cX4_in 2 = .ok (.lcmp, 1) := by decide +kernel
theorem dX4_in_3 : decode cX4_in 3 = .ok (.ifCond .lt 14, 3) := by decide +kernel
theorem dX4_in_6 : decode cX4_in 6 = .ok (.lload_n 0, 1) := by decide +kernel
theorem dX4_in_7 : decode cX4_in 7 = .ok (.lload 4, 2) := by decide +kernel
theorem dX4_in_9 : decode cX4_in 9 = .ok (.lcmp, 1) := by decide +kernel
theorem dX4_in_10 : decode cX4_in 10 = .ok (.ifCond .gt 7, 3) := by decide +kernel
theorem dX4_in_13 : decode cX4_in 13 = .ok (.iconst 1, 1) := by decide +kernel
theorem dX4_in_14 : decode cX4_in 14 = .ok (.goto 4, 3) := by decide +kernel
theorem dX4_in_17 : decode cX4_in 17 = .ok (.iconst 0, 1) := by decide +kernel
theorem dX4_in_18 : decode cX4_in 18 = .ok (.ireturn, 1) := by decide +kernel
theorem dX4_feed_0 : decode cX4_feed 0 = .ok (.iload_n 1, 1) := by decide +kernel
theorem dX4_feed_1 : decode cX4_feed 1 = .ok (.i2l, 1) := by decide +kernel
theorem dX4_feed_2 : decode cX4_feed 2 = .ok (.lconst 0, 1) := by decide +kernel
theorem dX4_feed_3 : decode cX4_feed 3 = .ok (.ldc2_w 47, 3) := by decide +kernel
theorem dX4_feed_6 : decode cX4_feed 6 = .ok (.invokestatic 49, 3) := by decide +kernel
theorem dX4_feed_9 : decode cX4_feed 9 = .ok (.ifCond .ne 5, 3) := by decide +kernel
theorem dX4_feed_12 : decode cX4_feed 12 = .ok (.iconst (-1), 1) := by decide +kernel
theorem dX4_feed_13 : decode cX4_feed 13 = .ok (.ireturn, 1) := by decide +kernel
theorem dX4_feed_14 : decode cX4_feed 14 = .ok (.aload_n 0, 1) := by decide +kernel
theorem dX4_feed_15 : decode cX4_feed 15 = .ok (.getfield 53, 3) := by decide +kernel
theorem dX4_feed_18 : decode cX4_feed 18 = .ok (.sipush 160, 3) := by decide +kernel
theorem dX4_feed_21 : decode cX4_feed 21 = .ok (.if_icmp .ne 6, 3) := by decide +kernel
theorem dX4_feed_24 : decode cX4_feed 24 = .ok (.bipush (-3), 2) := by decide +kernel
theorem dX4_feed_26 : decode cX4_feed 26 = .ok (.ireturn, 1) := by decide +kernel
theorem dX4_feed_27 : decode cX4_feed 27 = .ok (.aload_n 0, 1) := by decide +kernel
theorem dX4_feed_28 : decode cX4_feed 28 = .ok (.getfield 16, 3) := by decide +kernel
theorem dX4_feed_31 : decode cX4_feed 31 = .ok (.aload_n 0, 1) := by decide +kernel
theorem dX4_feed_32 : decode cX4_feed 32 = .ok (.getfield 53, 3) := by decide +kernel
theorem dX4_feed_35 : decode cX4_feed 35 = .ok (.iload_n 1, 1) := by decide +kernel
theorem dX4_feed_36 : decode cX4_feed 36 = .ok (.iastore, 1) := by decide +kernel
theorem dX4_feed_37 : decode cX4_feed 37 = .ok (.aload_n 0, 1) := by decide +kernel
theorem dX4_feed_38 : decode cX4_feed 38 = .ok (.dup, 1) := by decide +kernel
theorem dX4_feed_39 : decode cX4_feed 39 = .ok (.getfield 53, 3) := by decide +kernel
theorem dX4_feed_42 : decode cX4_feed 42 = .ok (.iconst 1, 1) := by decide +kernel
theorem dX4_feed_43 : decode cX4_feed 43 = .ok (.iadd, 1) := by decide +kernel
theorem dX4_feed_44 : decode cX4_feed 44 = .ok (.putfield 53, 3) := by decide +kernel
theorem dX4_feed_47 : decode cX4_feed 47 = .ok (.aload_n 0, 1) := by decide +kernel
theorem dX4_feed_48 : decode cX4_feed 48 = .ok (.getfield 53, 3) := by decide +kernel
theorem dX4_feed_51 : decode cX4_feed 51 = .ok (.ireturn, 1) := by decide +kernel
theorem dX4_end_0 : decode cX4_end 0 = .ok (.iload_n 1, 1) := by decide +kernel
theorem dX4_end_1 : decode cX4_end 1 = .ok (.i2l, 1) := by decide +kernel
theorem dX4_end_2 : decode cX4_end 2 = .ok (.lconst 0, 1) := by decide +kernel
theorem dX4_end_3 : decode cX4_end 3 = .ok (.aload_n 0, 1) := by decide +kernel
theorem dX4_end_4 : decode cX4_end 4 = .ok (.getfield 53, 3) := by decide +kernel
theorem dX4_end_7 : decode cX4_end 7 = .ok (.i2l, 1) := by decide +kernel
theorem dX4_end_8 : decode cX4_end 8 = .ok (.invokestatic 49, 3) := by decide +kernel
theorem dX4_end_11 : decode cX4_end 11 = .ok (.ifCond .ne 5, 3) := by decide +kernel
theorem dX4_end_14 : decode cX4_end 14 = .ok (.iconst (-1), 1) := by decide +kernel
theorem dX4_end_15 : decode cX4_end 15 = .ok (.ireturn, 1) := by decide +kernel
theorem dX4_end_16 : decode cX4_end 16 = .ok (.aload_n 0, 1) := by decide +kernel
theorem dX4_end_17 : decode cX4_end 17 = .ok (.getfield 53, 3) := by decide +kernel
theorem dX4_end_20 : decode cX4_end 20 = .ok (.istore_n 2, 1) := by decide +kernel
theorem dX4_end_21 : decode cX4_end 21 = .ok (.aload_n 0, 1) := by decide +kernel
theorem dX4_end_22 : decode cX4_end 22 = .ok (.iload_n 1, 1) := by decide +kernel
theorem dX4_end_23 : decode cX4_end 23 = .ok (.putfield 53, 3) := by decide +kernel
theorem dX4_end_26 : decode cX4_end 26 = .ok (.iload_n 2, 1) := by decide +kernel
theorem dX4_end_27 : decode cX4_end 27 = .ok (.ireturn, 1) := by decide +kernel
theorem dX4_byteAt_0 : decode cX4_byteAt 0 = .ok (.iload_n 1, 1) := by decide +kernel
theorem dX4_byteAt_1 : decode cX4_byteAt 1 = .ok (.aload_n 0, 1) := by decide +kernel
theorem dX4_byteAt_2 : decode cX4_byteAt 2 = .ok (.getfield 53, 3) := by decide +kernel
theorem dX4_byteAt_5 : decode cX4_byteAt 5 = .ok (.if_icmp .ge 12, 3) := by decide +kernel
theorem dX4_byteAt_8 : decode cX4_byteAt 8 = .ok (.aload_n 0, 1) := by decide +kernel
theorem dX4_byteAt_9 : decode cX4_byteAt 9 = .ok (.getfield 16, 3) := by decide +kernel
theorem dX4_byteAt_12 : decode cX4_byteAt 12 = .ok (.iload_n 1, 1) := by decide +kernel
theorem dX4_byteAt_13 : decode cX4_byteAt 13 = .ok (.iaload, 1) := by decide +kernel
theorem dX4_byteAt_14 : decode cX4_byteAt 14 = .ok (.goto 5, 3) := by decide +kernel
theorem dX4_byteAt_17 : decode cX4_byteAt 17 = .ok (.bipush (-4), 2) := by decide +kernel
theorem dX4_byteAt_19 : decode cX4_byteAt 19 = .ok (.ireturn, 1) := by decide +kernel
theorem dX4_fails_0 : decode cX4_fails 0 = .ok (.aload_n 0, 1) := by decide +kernel
theorem dX4_fails_1 : decode cX4_fails 1 = .ok (.getfield 57, 3) := by decide +kernel
theorem dX4_fails_4 : decode cX4_fails 4 = .ok (.ifCond .ne 16, 3) := by decide +kernel
theorem dX4_fails_7 : decode cX4_fails 7 = .ok (.aload_n 0, 1) := by decide +kernel
theorem dX4_fails_8 : decode cX4_fails 8 = .ok (.iload_n 1, 1) := by decide +kernel
theorem dX4_fails_9 : decode cX4_fails 9 = .ok (.putfield 57, 3) := by decide +kernel
theorem dX4_fails_12 : decode cX4_fails 12 = .ok (.aload_n 0, 1) := by decide +kernel
theorem dX4_fails_13 : decode cX4_fails 13 = .ok (.aload_n 0, 1) := by decide +kernel
theorem dX4_fails_14 : decode cX4_fails 14 = .ok (.getfield 60, 3) := by decide +kernel
theorem dX4_fails_17 : decode cX4_fails 17 = .ok (.putfield 63, 3) := by decide +kernel
theorem dX4_fails_20 : decode cX4_fails 20 = .ok (.return_, 1) := by decide +kernel
theorem dX4_nameHere_0 : decode cX4_nameHere 0 = .ok (.iconst 0, 1) := by decide +kernel
theorem dX4_nameHere_1 : decode cX4_nameHere 1 = .ok (.istore_n 1, 1) := by decide +kernel
theorem dX4_nameHere_2 : decode cX4_nameHere 2 = .ok (.iload_n 1, 1) := by decide +kernel
theorem dX4_nameHere_3 : decode cX4_nameHere 3 = .ok (.bipush 8, 2) := by decide +kernel
theorem dX4_nameHere_5 : decode cX4_nameHere 5 = .ok (.if_icmp .ge 113, 3) := by decide +kernel
theorem dX4_nameHere_8 : decode cX4_nameHere 8 = .ok (.aload_n 0, 1) := by decide +kernel
theorem dX4_nameHere_9 : decode cX4_nameHere 9 = .ok (.getfield 66, 3) := by decide +kernel
theorem dX4_nameHere_12 : decode cX4_nameHere 12 = .ok (.iconst 1, 1) := by decide +kernel
theorem dX4_nameHere_13 : decode cX4_nameHere 13 = .ok (.if_icmp .ne 105, 3) := by decide +kernel
theorem dX4_nameHere_16 : decode cX4_nameHere 16 = .ok (.aload_n 0, 1) := by decide +kernel
theorem dX4_nameHere_17 : decode cX4_nameHere 17 = .ok (.getfield 69, 3) := by decide +kernel
theorem dX4_nameHere_20 : decode cX4_nameHere 20 = .ok (.aload_n 0, 1) := by decide +kernel
theorem dX4_nameHere_21 : decode cX4_nameHere 21 = .ok (.getfield 60, 3) := by decide +kernel
theorem dX4_nameHere_24 : decode cX4_nameHere 24 = .ok (.isub, 1) := by decide +kernel
theorem dX4_nameHere_25 : decode cX4_nameHere 25 = .ok (.aload_n 0, 1) := by decide +kernel
theorem dX4_nameHere_26 : decode cX4_nameHere 26 = .ok (.getfield 19, 3) := by decide +kernel
theorem dX4_nameHere_29 : decode cX4_nameHere 29 = .ok (.iload_n 1, 1) := by decide +kernel
theorem dX4_nameHere_30 : decode cX4_nameHere 30 = .ok (.iconst 1, 1) := by decide +kernel
theorem dX4_nameHere_31 : decode cX4_nameHere 31 = .ok (.iadd, 1) := by decide +kernel
theorem dX4_nameHere_32 : decode cX4_nameHere 32 = .ok (.iaload, 1) := by decide +kernel
theorem dX4_nameHere_33 : decode cX4_nameHere 33 = .ok (.aload_n 0, 1) := by decide +kernel
theorem dX4_nameHere_34 : decode cX4_nameHere 34 = .ok (.getfield 19, 3) := by decide +kernel
theorem dX4_nameHere_37 : decode cX4_nameHere 37 = .ok (.iload_n 1, 1) := by decide +kernel
theorem dX4_nameHere_38 : decode cX4_nameHere 38 = .ok (.iaload, 1) := by decide +kernel
theorem dX4_nameHere_39 : decode cX4_nameHere 39 = .ok (.isub, 1) := by decide +kernel
theorem dX4_nameHere_40 : decode cX4_nameHere 40 = .ok (.if_icmp .ne 7, 3) := by decide +kernel
theorem dX4_nameHere_43 : decode cX4_nameHere 43 = .ok (.iconst 1, 1) := by decide +kernel
theorem dX4_nameHere_44 : decode cX4_nameHere 44 = .ok (.goto 4, 3) := by decide +kernel
theorem dX4_nameHere_47 : decode cX4_nameHere 47 = .ok (.iconst 0, 1) := by decide +kernel
theorem dX4_nameHere_48 : decode cX4_nameHere 48 = .ok (.istore_n 2, 1) := by decide +kernel
theorem dX4_nameHere_49 : decode cX4_nameHere 49 = .ok (.iconst 0, 1) := by decide +kernel
theorem dX4_nameHere_50 : decode cX4_nameHere 50 = .ok (.istore_n 3, 1) := by decide +kernel
theorem dX4_nameHere_51 : decode cX4_nameHere 51 = .ok (.iload_n 2, 1) := by decide +kernel
theorem dX4_nameHere_52 : decode cX4_nameHere 52 = .ok (.ifCond .eq 54, 3) := by decide +kernel
theorem dX4_nameHere_55 : decode cX4_nameHere 55 = .ok (.iload_n 3, 1) := by decide +kernel
theorem dX4_nameHere_56 : decode cX4_nameHere 56 = .ok (.aload_n 0, 1) := by decide +kernel
theorem dX4_nameHere_57 : decode cX4_nameHere 57 = .ok (.getfield 69, 3) := by decide +kernel
theorem dX4_nameHere_60 : decode cX4_nameHere 60 = .ok (.aload_n 0, 1) := by decide +kernel
theorem dX4_nameHere_61 : decode cX4_nameHere 61 = .ok (.getfield 60, 3) := by decide +kernel
theorem dX4_nameHere_64 : decode cX4_nameHere 64 = .ok (.isub, 1) := by decide +kernel
theorem dX4_nameHere_65 : decode cX4_nameHere 65 = .ok (.if_icmp .ge 41, 3) := by decide +kernel
theorem dX4_nameHere_68 : decode cX4_nameHere 68 = .ok (.aload_n 0, 1) := by decide +kernel
theorem dX4_nameHere_69 : decode cX4_nameHere 69 = .ok (.aload_n 0, 1) := by decide +kernel
theorem dX4_nameHere_70 : decode cX4_nameHere 70 = .ok (.getfield 60, 3) := by decide +kernel
theorem dX4_nameHere_73 : decode cX4_nameHere 73 = .ok (.iload_n 3, 1) := by decide +kernel
theorem dX4_nameHere_74 : decode cX4_nameHere 74 = .ok (.iadd, 1) := by decide +kernel
theorem dX4_nameHere_75 : decode cX4_nameHere 75 = .ok (.invokevirtual 72, 3) := by decide +kernel
theorem dX4_nameHere_78 : decode cX4_nameHere 78 = .ok (.aload_n 0, 1) := by decide +kernel
theorem dX4_nameHere_79 : decode cX4_nameHere 79 = .ok (.getfield 22, 3) := by decide +kernel
theorem dX4_nameHere_82 : decode cX4_nameHere 82 = .ok (.aload_n 0, 1) := by decide +kernel
theorem dX4_nameHere_83 : decode cX4_nameHere 83 = .ok (.getfield 19, 3) := by decide +kernel
theorem dX4_nameHere_86 : decode cX4_nameHere 86 = .ok (.iload_n 1, 1) := by decide +kernel
theorem dX4_nameHere_87 : decode cX4_nameHere 87 = .ok (.iaload, 1) := by decide +kernel
theorem dX4_nameHere_88 : decode cX4_nameHere 88 = .ok (.iload_n 3, 1) := by decide +kernel
theorem dX4_nameHere_89 : decode cX4_nameHere 89 = .ok (.iadd, 1) := by decide +kernel
theorem dX4_nameHere_90 : decode cX4_nameHere 90 = .ok (.iaload, 1) := by decide +kernel
theorem dX4_nameHere_91 : decode cX4_nameHere 91 = .ok (.if_icmp .ne 7, 3) := by decide +kernel
theorem dX4_nameHere_94 : decode cX4_nameHere 94 = .ok (.iconst 1, 1) := by decide +kernel
theorem dX4_nameHere_95 : decode cX4_nameHere 95 = .ok (.goto 4, 3) := by decide +kernel
theorem dX4_nameHere_98 : decode cX4_nameHere 98 = .ok (.iconst 0, 1) := by decide +kernel
theorem dX4_nameHere_99 : decode cX4_nameHere 99 = .ok (.istore_n 2, 1) := by decide +kernel
theorem dX4_nameHere_100 : decode cX4_nameHere 100 = .ok (.iinc 3 1, 3) := by decide +kernel
theorem dX4_nameHere_103 : decode cX4_nameHere 103 = .ok (.goto (-52), 3) := by decide +kernel
theorem dX4_nameHere_106 : decode cX4_nameHere 106 = .ok (.iload_n 2, 1) := by decide +kernel
theorem dX4_nameHere_107 : decode cX4_nameHere 107 = .ok (.ifCond .eq 5, 3) := by decide +kernel
theorem dX4_nameHere_110 : decode cX4_nameHere 110 = .ok (.iload_n 1, 1) := by decide +kernel
theorem dX4_nameHere_111 : decode cX4_nameHere 111 = .ok (.ireturn, 1) := by decide +kernel
theorem dX4_nameHere_112 : decode cX4_nameHere 112 = .ok (.iinc 1 1, 3) := by decide +kernel
theorem dX4_nameHere_115 : decode cX4_nameHere 115 = .ok (.goto (-113), 3) := by decide +kernel
theorem dX4_nameHere_118 : decode cX4_nameHere 118 = .ok (.bipush (-4), 2) := by decide +kernel
theorem dX4_nameHere_120 : decode cX4_nameHere 120 = .ok (.ireturn, 1) := by decide +kernel
theorem dX4_step_0 : decode cX4_step 0 = .ok (.aload_n 0, 1) := by decide +kernel
theorem dX4_step_1 : decode cX4_step 1 = .ok (.getfield 57, 3) := by decide +kernel
theorem dX4_step_4 : decode cX4_step 4 = .ok (.ifCond .le 4, 3) := by decide +kernel
theorem dX4_step_7 : decode cX4_step 7 = .ok (.return_, 1) := by decide +kernel
theorem dX4_step_8 : decode cX4_step 8 = .ok (.aload_n 0, 1) := by decide +kernel
theorem dX4_step_9 : decode cX4_step 9 = .ok (.aload_n 0, 1) := by decide +kernel
theorem dX4_step_10 : decode cX4_step 10 = .ok (.getfield 69, 3) := by decide +kernel
theorem dX4_step_13 : decode cX4_step 13 = .ok (.invokevirtual 72, 3) := by decide +kernel
theorem dX4_step_16 : decode cX4_step 16 = .ok (.bipush 32, 2) := by decide +kernel
theorem dX4_step_18 : decode cX4_step 18 = .ok (.if_icmp .ne 16, 3) := by decide +kernel
theorem dX4_step_21 : decode cX4_step 21 = .ok (.aload_n 0, 1) := by decide +kernel
theorem dX4_step_22 : decode cX4_step 22 = .ok (.dup, 1) := by decide +kernel
theorem dX4_step_23 : decode cX4_step 23 = .ok (.getfield 69, 3) := by decide +kernel
theorem dX4_step_26 : decode cX4_step 26 = .ok (.iconst 1, 1) := by decide +kernel
theorem dX4_step_27 : decode cX4_step 27 = .ok (.iadd, 1) := by decide +kernel
theorem dX4_step_28 : decode cX4_step 28 = .ok (.putfield 69, 3) := by decide +kernel
theorem dX4_step_31 : decode cX4_step 31 = .ok (.goto (-23), 3) := by decide +kernel
theorem dX4_step_34 : decode cX4_step 34 = .ok (.aload_n 0, 1) := by decide +kernel
theorem dX4_step_35 : decode cX4_step 35 = .ok (.aload_n 0, 1) := by decide +kernel
theorem dX4_step_36 : decode cX4_step 36 = .ok (.getfield 69, 3) := by decide +kernel
theorem dX4_step_39 : decode cX4_step 39 = .ok (.putfield 60, 3) := by decide +kernel
theorem dX4_step_42 : decode cX4_step 42 = .ok (.aload_n 0, 1) := by decide +kernel
theorem dX4_step_43 : decode cX4_step 43 = .ok (.aload_n 0, 1) := by decide +kernel
theorem dX4_step_44 : decode cX4_step 44 = .ok (.getfield 69, 3) := by decide +kernel
theorem dX4_step_47 : decode cX4_step 47 = .ok (.invokevirtual 72, 3) := by decide +kernel
theorem dX4_step_50 : decode cX4_step 50 = .ok (.istore_n 1, 1) := by decide +kernel
theorem dX4_step_51 : decode cX4_step 51 = .ok (.aload_n 0, 1) := by decide +kernel
theorem dX4_step_52 : decode cX4_step 52 = .ok (.iconst 0, 1) := by decide +kernel
theorem dX4_step_53 : decode cX4_step 53 = .ok (.putfield 76, 3) := by decide +kernel
theorem dX4_step_56 : decode cX4_step 56 = .ok (.iload_n 1, 1) := by decide +kernel
theorem dX4_step_57 : decode cX4_step 57 = .ok (.bipush (-4), 2) := by decide +kernel
theorem dX4_step_59 : decode cX4_step 59 = .ok (.if_icmp .ne 11, 3) := by decide +kernel
theorem dX4_step_62 : decode cX4_step 62 = .ok (.aload_n 0, 1) := by decide +kernel
theorem dX4_step_63 : decode cX4_step 63 = .ok (.iconst 0, 1) := by decide +kernel
theorem dX4_step_64 : decode cX4_step 64 = .ok (.putfield 66, 3) := by decide +kernel
theorem dX4_step_67 : decode cX4_step 67 = .ok (.goto 202, 3) := by decide +kernel
theorem dX4_step_70 : decode cX4_step 70 = .ok (.iload_n 1, 1) := by decide +kernel
theorem dX4_step_71 : decode cX4_step 71 = .ok (.i2l, 1) := by decide +kernel
theorem dX4_step_72 : decode cX4_step 72 = .ok (.ldc2_w 79, 3) := by decide +kernel
theorem dX4_step_75 : decode cX4_step 75 = .ok (.ldc2_w 81, 3) := by decide +kernel
theorem dX4_step_78 : decode cX4_step 78 = .ok (.invokestatic 49, 3) := by decide +kernel
theorem dX4_step_81 : decode cX4_step 81 = .ok (.ifCond .eq 45, 3) := by decide +kernel
theorem dX4_step_84 : decode cX4_step 84 = .ok (.aload_n 0, 1) := by decide +kernel
theorem dX4_step_85 : decode cX4_step 85 = .ok (.aload_n 0, 1) := by decide +kernel
theorem dX4_step_86 : decode cX4_step 86 = .ok (.getfield 69, 3) := by decide +kernel
theorem dX4_step_89 : decode cX4_step 89 = .ok (.invokevirtual 72, 3) := by decide +kernel
theorem dX4_step_92 : decode cX4_step 92 = .ok (.i2l, 1) := by decide +kernel
theorem dX4_step_93 : decode cX4_step 93 = .ok (.ldc2_w 79, 3) := by decide +kernel
theorem dX4_step_96 : decode cX4_step 96 = .ok (.ldc2_w 81, 3) := by decide +kernel
theorem dX4_step_99 : decode cX4_step 99 = .ok (.invokestatic 49, 3) := by decide +kernel
theorem dX4_step_102 : decode cX4_step 102 = .ok (.ifCond .eq 16, 3) := by decide +kernel
theorem dX4_step_105 : decode cX4_step 105 = .ok (.aload_n 0, 1) := by decide +kernel
theorem dX4_step_106 : decode cX4_step 106 = .ok (.dup, 1) := by decide +kernel
theorem dX4_step_107 : decode cX4_step 107 = .ok (.getfield 69, 3) := by decide +kernel
theorem dX4_step_110 : decode cX4_step 110 = .ok (.iconst 1, 1) := by decide +kernel
theorem dX4_step_111 : decode cX4_step 111 = .ok (.iadd, 1) := by decide +kernel
theorem dX4_step_112 : decode cX4_step 112 = .ok (.putfield 69, 3) := by decide +kernel
theorem dX4_step_115 : decode cX4_step 115 = .ok (.goto (-31), 3) := by decide +kernel
theorem dX4_step_118 : decode cX4_step 118 = .ok (.aload_n 0, 1) := by decide +kernel
theorem dX4_step_119 : decode cX4_step 119 = .ok (.iconst 1, 1) := by decide +kernel
theorem dX4_step_120 : decode cX4_step 120 = .ok (.putfield 66, 3) := by decide +kernel
theorem dX4_step_123 : decode cX4_step 123 = .ok (.goto 146, 3) := by decide +kernel
theorem dX4_step_126 : decode cX4_step 126 = .ok (.iload_n 1, 1) := by decide +kernel
theorem dX4_step_127 : decode cX4_step 127 = .ok (.i2l, 1) := by decide +kernel
theorem dX4_step_128 : decode cX4_step 128 = .ok (.ldc2_w 83, 3) := by decide +kernel
theorem dX4_step_131 : decode cX4_step 131 = .ok (.ldc2_w 85, 3) := by decide +kernel
theorem dX4_step_134 : decode cX4_step 134 = .ok (.invokestatic 49, 3) := by decide +kernel
theorem dX4_step_137 : decode cX4_step 137 = .ok (.ifCond .eq 106, 3) := by decide +kernel
theorem dX4_step_140 : decode cX4_step 140 = .ok (.aload_n 0, 1) := by decide +kernel
theorem dX4_step_141 : decode cX4_step 141 = .ok (.aload_n 0, 1) := by decide +kernel
theorem dX4_step_142 : decode cX4_step 142 = .ok (.getfield 69, 3) := by decide +kernel
theorem dX4_step_145 : decode cX4_step 145 = .ok (.invokevirtual 72, 3) := by decide +kernel
theorem dX4_step_148 : decode cX4_step 148 = .ok (.i2l, 1) := by decide +kernel
theorem dX4_step_149 : decode cX4_step 149 = .ok (.ldc2_w 83, 3) := by decide +kernel
theorem dX4_step_152 : decode cX4_step 152 = .ok (.ldc2_w 85, 3) := by decide +kernel
theorem dX4_step_155 : decode cX4_step 155 = .ok (.invokestatic 49, 3) := by decide +kernel
theorem dX4_step_158 : decode cX4_step 158 = .ok (.ifCond .eq 59, 3) := by decide +kernel
theorem dX4_step_161 : decode cX4_step 161 = .ok (.aload_n 0, 1) := by decide +kernel
theorem dX4_step_162 : decode cX4_step 162 = .ok (.aload_n 0, 1) := by decide +kernel
theorem dX4_step_163 : decode cX4_step 163 = .ok (.getfield 69, 3) := by decide +kernel
theorem dX4_step_166 : decode cX4_step 166 = .ok (.aload_n 0, 1) := by decide +kernel
theorem dX4_step_167 : decode cX4_step 167 = .ok (.getfield 60, 3) := by decide +kernel
theorem dX4_step_170 : decode cX4_step 170 = .ok (.isub, 1) := by decide +kernel
theorem dX4_step_171 : decode cX4_step 171 = .ok (.iconst 2, 1) := by decide +kernel
theorem dX4_step_172 : decode cX4_step 172 = .ok (.if_icmp .ge 25, 3) := by decide +kernel
theorem dX4_step_175 : decode cX4_step 175 = .ok (.bipush 10, 2) := by decide +kernel
theorem dX4_step_177 : decode cX4_step 177 = .ok (.aload_n 0, 1) := by decide +kernel
theorem dX4_step_178 : decode cX4_step 178 = .ok (.getfield 76, 3) := by decide +kernel
theorem dX4_step_181 : decode cX4_step 181 = .ok (.imul, 1) := by decide +kernel
theorem dX4_step_182 : decode cX4_step 182 = .ok (.aload_n 0, 1) := by decide +kernel
theorem dX4_step_183 : decode cX4_step 183 = .ok (.aload_n 0, 1) := by decide +kernel
theorem dX4_step_184 : decode cX4_step 184 = .ok (.getfield 69, 3) := by decide +kernel
theorem dX4_step_187 : decode cX4_step 187 = .ok (.invokevirtual 72, 3) := by decide +kernel
theorem dX4_step_190 : decode cX4_step 190 = .ok (.iadd, 1) := by decide +kernel
theorem dX4_step_191 : decode cX4_step 191 = .ok (.bipush 48, 2) := by decide +kernel
theorem dX4_step_193 : decode cX4_step 193 = .ok (.isub, 1) := by decide +kernel
theorem dX4_step_194 : decode cX4_step 194 = .ok (.goto 7, 3) := by decide +kernel
theorem dX4_step_197 : decode cX4_step 197 = .ok (.aload_n 0, 1) := by decide +kernel
theorem dX4_step_198 : decode cX4_step 198 = .ok (.getfield 76, 3) := by decide +kernel
theorem dX4_step_201 : decode cX4_step 201 = .ok (.putfield 76, 3) := by decide +kernel
theorem dX4_step_204 : decode cX4_step 204 = .ok (.aload_n 0, 1) := by decide +kernel
theorem dX4_step_205 : decode cX4_step 205 = .ok (.dup, 1) := by decide +kernel
theorem dX4_step_206 : decode cX4_step 206 = .ok (.getfield 69, 3) := by decide +kernel
theorem dX4_step_209 : decode cX4_step 209 = .ok (.iconst 1, 1) := by decide +kernel
theorem dX4_step_210 : decode cX4_step 210 = .ok (.iadd, 1) := by decide +kernel
theorem dX4_step_211 : decode cX4_step 211 = .ok (.putfield 69, 3) := by decide +kernel
theorem dX4_step_214 : decode cX4_step 214 = .ok (.goto (-74), 3) := by decide +kernel
theorem dX4_step_217 : decode cX4_step 217 = .ok (.aload_n 0, 1) := by decide +kernel
theorem dX4_step_218 : decode cX4_step 218 = .ok (.iconst 2, 1) := by decide +kernel
theorem dX4_step_219 : decode cX4_step 219 = .ok (.putfield 66, 3) := by decide +kernel
theorem dX4_step_222 : decode cX4_step 222 = .ok (.aload_n 0, 1) := by decide +kernel
theorem dX4_step_223 : decode cX4_step 223 = .ok (.getfield 69, 3) := by decide +kernel
theorem dX4_step_226 : decode cX4_step 226 = .ok (.aload_n 0, 1) := by decide +kernel
theorem dX4_step_227 : decode cX4_step 227 = .ok (.getfield 60, 3) := by decide +kernel
theorem dX4_step_230 : decode cX4_step 230 = .ok (.isub, 1) := by decide +kernel
theorem dX4_step_231 : decode cX4_step 231 = .ok (.iconst 2, 1) := by decide +kernel
theorem dX4_step_232 : decode cX4_step 232 = .ok (.if_icmp .le 37, 3) := by decide +kernel
theorem dX4_step_235 : decode cX4_step 235 = .ok (.aload_n 0, 1) := by decide +kernel
theorem dX4_step_236 : decode cX4_step 236 = .ok (.iconst 1, 1) := by decide +kernel
theorem dX4_step_237 : decode cX4_step 237 = .ok (.invokevirtual 87, 3) := by decide +kernel
theorem dX4_step_240 : decode cX4_step 240 = .ok (.goto 29, 3) := by decide +kernel
theorem dX4_step_243 : decode cX4_step 243 = .ok (.aload_n 0, 1) := by decide +kernel
theorem dX4_step_244 : decode cX4_step 244 = .ok (.iconst 3, 1) := by decide +kernel
theorem dX4_step_245 : decode cX4_step 245 = .ok (.putfield 66, 3) := by decide +kernel
theorem dX4_step_248 : decode cX4_step 248 = .ok (.aload_n 0, 1) := by decide +kernel
theorem dX4_step_249 : decode cX4_step 249 = .ok (.dup, 1) := by decide +kernel
theorem dX4_step_250 : decode cX4_step 250 = .ok (.getfield 69, 3) := by decide +kernel
theorem dX4_step_253 : decode cX4_step 253 = .ok (.iconst 1, 1) := by decide +kernel
theorem dX4_step_254 : decode cX4_step 254 = .ok (.iadd, 1) := by decide +kernel
theorem dX4_step_255 : decode cX4_step 255 = .ok (.putfield 69, 3) := by decide +kernel
theorem dX4_step_258 : decode cX4_step 258 = .ok (.iload_n 1, 1) := by decide +kernel
theorem dX4_step_259 : decode cX4_step 259 = .ok (.bipush 59, 2) := by decide +kernel
theorem dX4_step_261 : decode cX4_step 261 = .ok (.if_icmp .eq 8, 3) := by decide +kernel
theorem dX4_step_264 : decode cX4_step 264 = .ok (.aload_n 0, 1) := by decide +kernel
theorem dX4_step_265 : decode cX4_step 265 = .ok (.iconst 1, 1) := by decide +kernel
theorem dX4_step_266 : decode cX4_step 266 = .ok (.invokevirtual 87, 3) := by decide +kernel
theorem dX4_step_269 : decode cX4_step 269 = .ok (.return_, 1) := by decide +kernel
theorem dX4_other_0 : decode cX4_other 0 = .ok (.aload_n 0, 1) := by decide +kernel
theorem dX4_other_1 : decode cX4_other 1 = .ok (.getfield 57, 3) := by decide +kernel
theorem dX4_other_4 : decode cX4_other 4 = .ok (.ifCond .ne 16, 3) := by decide +kernel
theorem dX4_other_7 : decode cX4_other 7 = .ok (.aload_n 0, 1) := by decide +kernel
theorem dX4_other_8 : decode cX4_other 8 = .ok (.getfield 66, 3) := by decide +kernel
theorem dX4_other_11 : decode cX4_other 11 = .ok (.iconst 2, 1) := by decide +kernel
theorem dX4_other_12 : decode cX4_other 12 = .ok (.if_icmp .eq 8, 3) := by decide +kernel
theorem dX4_other_15 : decode cX4_other 15 = .ok (.aload_n 0, 1) := by decide +kernel
theorem dX4_other_16 : decode cX4_other 16 = .ok (.iconst 2, 1) := by decide +kernel
theorem dX4_other_17 : decode cX4_other 17 = .ok (.invokevirtual 87, 3) := by decide +kernel
theorem dX4_other_20 : decode cX4_other 20 = .ok (.aload_n 0, 1) := by decide +kernel
theorem dX4_other_21 : decode cX4_other 21 = .ok (.getfield 57, 3) := by decide +kernel
theorem dX4_other_24 : decode cX4_other 24 = .ok (.ifCond .ne 23, 3) := by decide +kernel
theorem dX4_other_27 : decode cX4_other 27 = .ok (.aload_n 0, 1) := by decide +kernel
theorem dX4_other_28 : decode cX4_other 28 = .ok (.getfield 76, 3) := by decide +kernel
theorem dX4_other_31 : decode cX4_other 31 = .ok (.i2l, 1) := by decide +kernel
theorem dX4_other_32 : decode cX4_other 32 = .ok (.iload_n 1, 1) := by decide +kernel
theorem dX4_other_33 : decode cX4_other 33 = .ok (.i2l, 1) := by decide +kernel
theorem dX4_other_34 : decode cX4_other 34 = .ok (.iload_n 2, 1) := by decide +kernel
theorem dX4_other_35 : decode cX4_other 35 = .ok (.i2l, 1) := by decide +kernel
theorem dX4_other_36 : decode cX4_other 36 = .ok (.invokestatic 49, 3) := by decide +kernel
theorem dX4_other_39 : decode cX4_other 39 = .ok (.ifCond .ne 8, 3) := by decide +kernel
theorem dX4_other_42 : decode cX4_other 42 = .ok (.aload_n 0, 1) := by decide +kernel
theorem dX4_other_43 : decode cX4_other 43 = .ok (.iconst 3, 1) := by decide +kernel
theorem dX4_other_44 : decode cX4_other 44 = .ok (.invokevirtual 87, 3) := by decide +kernel
theorem dX4_other_47 : decode cX4_other 47 = .ok (.aload_n 0, 1) := by decide +kernel
theorem dX4_other_48 : decode cX4_other 48 = .ok (.getfield 57, 3) := by decide +kernel
theorem dX4_other_51 : decode cX4_other 51 = .ok (.ifCond .ne 24, 3) := by decide +kernel
theorem dX4_other_54 : decode cX4_other 54 = .ok (.iload_n 3, 1) := by decide +kernel
theorem dX4_other_55 : decode cX4_other 55 = .ok (.ifCond .eq 20, 3) := by decide +kernel
theorem dX4_other_58 : decode cX4_other 58 = .ok (.iload_n 3, 1) := by decide +kernel
theorem dX4_other_59 : decode cX4_other 59 = .ok (.aload_n 0, 1) := by decide +kernel
theorem dX4_other_60 : decode cX4_other 60 = .ok (.getfield 76, 3) := by decide +kernel
theorem dX4_other_63 : decode cX4_other 63 = .ok (.ishr, 1) := by decide +kernel
theorem dX4_other_64 : decode cX4_other 64 = .ok (.iconst 1, 1) := by decide +kernel
theorem dX4_other_65 : decode cX4_other 65 = .ok (.iand, 1) := by decide +kernel
theorem dX4_other_66 : decode cX4_other 66 = .ok (.iconst 1, 1) := by decide +kernel
theorem dX4_other_67 : decode cX4_other 67 = .ok (.if_icmp .ne 8, 3) := by decide +kernel
theorem dX4_other_70 : decode cX4_other 70 = .ok (.aload_n 0, 1) := by decide +kernel
theorem dX4_other_71 : decode cX4_other 71 = .ok (.iconst 4, 1) := by decide +kernel
theorem dX4_other_72 : decode cX4_other 72 = .ok (.invokevirtual 87, 3) := by decide +kernel
theorem dX4_other_75 : decode cX4_other 75 = .ok (.aload_n 0, 1) := by decide +kernel
theorem dX4_other_76 : decode cX4_other 76 = .ok (.getfield 57, 3) := by decide +kernel
theorem dX4_other_79 : decode cX4_other 79 = .ok (.ifCond .ne 10, 3) := by decide +kernel
theorem dX4_other_82 : decode cX4_other 82 = .ok (.aload_n 0, 1) := by decide +kernel
theorem dX4_other_83 : decode cX4_other 83 = .ok (.getfield 76, 3) := by decide +kernel
theorem dX4_other_86 : decode cX4_other 86 = .ok (.goto 4, 3) := by decide +kernel
theorem dX4_other_89 : decode cX4_other 89 = .ok (.iload_n 1, 1) := by decide +kernel
theorem dX4_other_90 : decode cX4_other 90 = .ok (.istore 4, 2) := by decide +kernel
theorem dX4_other_92 : decode cX4_other 92 = .ok (.aload_n 0, 1) := by decide +kernel
theorem dX4_other_93 : decode cX4_other 93 = .ok (.invokevirtual 91, 3) := by decide +kernel
theorem dX4_other_96 : decode cX4_other 96 = .ok (.iload 4, 2) := by decide +kernel
theorem dX4_other_98 : decode cX4_other 98 = .ok (.ireturn, 1) := by decide +kernel
theorem dX4_readRota_0 : decode cX4_readRota 0 = .ok (.aload_n 0, 1) := by decide +kernel
theorem dX4_readRota_1 : decode cX4_readRota 1 = .ok (.getfield 57, 3) := by decide +kernel
theorem dX4_readRota_4 : decode cX4_readRota 4 = .ok (.ifCond .ne 98, 3) := by decide +kernel
theorem dX4_readRota_7 : decode cX4_readRota 7 = .ok (.aload_n 0, 1) := by decide +kernel
theorem dX4_readRota_8 : decode cX4_readRota 8 = .ok (.getfield 66, 3) := by decide +kernel
theorem dX4_readRota_11 : decode cX4_readRota 11 = .ok (.iconst 2, 1) := by decide +kernel
theorem dX4_readRota_12 : decode cX4_readRota 12 = .ok (.if_icmp .ne 90, 3) := by decide +kernel
theorem dX4_readRota_15 : decode cX4_readRota 15 = .ok (.aload_n 0, 1) := by decide +kernel
theorem dX4_readRota_16 : decode cX4_readRota 16 = .ok (.getfield 94, 3) := by decide +kernel
theorem dX4_readRota_19 : decode cX4_readRota 19 = .ok (.bipush 12, 2) := by decide +kernel
theorem dX4_readRota_21 : decode cX4_readRota 21 = .ok (.if_icmp .ne 11, 3) := by decide +kernel
theorem dX4_readRota_24 : decode cX4_readRota 24 = .ok (.aload_n 0, 1) := by decide +kernel
theorem dX4_readRota_25 : decode cX4_readRota 25 = .ok (.iconst 5, 1) := by decide +kernel
theorem dX4_readRota_26 : decode cX4_readRota 26 = .ok (.invokevirtual 87, 3) := by decide +kernel
theorem dX4_readRota_29 : decode cX4_readRota 29 = .ok (.goto (-29), 3) := by decide +kernel
theorem dX4_readRota_32 : decode cX4_readRota 32 = .ok (.aload_n 0, 1) := by decide +kernel
theorem dX4_readRota_33 : decode cX4_readRota 33 = .ok (.iconst 0, 1) := by decide +kernel
theorem dX4_readRota_34 : decode cX4_readRota 34 = .ok (.iconst 4, 1) := by decide +kernel
theorem dX4_readRota_35 : decode cX4_readRota 35 = .ok (.iconst 0, 1) := by decide +kernel
theorem dX4_readRota_36 : decode cX4_readRota 36 = .ok (.invokevirtual 97, 3) := by decide +kernel
theorem dX4_readRota_39 : decode cX4_readRota 39 = .ok (.istore_n 1, 1) := by decide +kernel
theorem dX4_readRota_40 : decode cX4_readRota 40 = .ok (.aload_n 0, 1) := by decide +kernel
theorem dX4_readRota_41 : decode cX4_readRota 41 = .ok (.iload_n 1, 1) := by decide +kernel
theorem dX4_readRota_42 : decode cX4_readRota 42 = .ok (.iconst 4, 1) := by decide +kernel
theorem dX4_readRota_43 : decode cX4_readRota 43 = .ok (.if_icmp .ge 15, 3) := by decide +kernel
theorem dX4_readRota_46 : decode cX4_readRota 46 = .ok (.iload_n 1, 1) := by decide +kernel
theorem dX4_readRota_47 : decode cX4_readRota 47 = .ok (.aload_n 0, 1) := by decide +kernel
theorem dX4_readRota_48 : decode cX4_readRota 48 = .ok (.getfield 101, 3) := by decide +kernel
theorem dX4_readRota_51 : decode cX4_readRota 51 = .ok (.if_icmp .le 7, 3) := by decide +kernel
theorem dX4_readRota_54 : decode cX4_readRota 54 = .ok (.iload_n 1, 1) := by decide +kernel
theorem dX4_readRota_55 : decode cX4_readRota 55 = .ok (.goto 7, 3) := by decide +kernel
theorem dX4_readRota_58 : decode cX4_readRota 58 = .ok (.aload_n 0, 1) := by decide +kernel
theorem dX4_readRota_59 : decode cX4_readRota 59 = .ok (.getfield 101, 3) := by decide +kernel
theorem dX4_readRota_62 : decode cX4_readRota 62 = .ok (.putfield 101, 3) := by decide +kernel
theorem dX4_readRota_65 : decode cX4_readRota 65 = .ok (.aload_n 0, 1) := by decide +kernel
theorem dX4_readRota_66 : decode cX4_readRota 66 = .ok (.getfield 13, 3) := by decide +kernel
theorem dX4_readRota_69 : decode cX4_readRota 69 = .ok (.bipush 8, 2) := by decide +kernel
theorem dX4_readRota_71 : decode cX4_readRota 71 = .ok (.aload_n 0, 1) := by decide +kernel
theorem dX4_readRota_72 : decode cX4_readRota 72 = .ok (.getfield 94, 3) := by decide +kernel
theorem dX4_readRota_75 : decode cX4_readRota 75 = .ok (.iadd, 1) := by decide +kernel
theorem dX4_readRota_76 : decode cX4_readRota 76 = .ok (.iload_n 1, 1) := by decide +kernel
theorem dX4_readRota_77 : decode cX4_readRota 77 = .ok (.iconst 4, 1) := by decide +kernel
theorem dX4_readRota_78 : decode cX4_readRota 78 = .ok (.if_icmp .ge 9, 3) := by decide +kernel
theorem dX4_readRota_81 : decode cX4_readRota 81 = .ok (.iload_n 1, 1) := by decide +kernel
theorem dX4_readRota_82 : decode cX4_readRota 82 = .ok (.iconst 1, 1) := by decide +kernel
theorem dX4_readRota_83 : decode cX4_readRota 83 = .ok (.iadd, 1) := by decide +kernel
theorem dX4_readRota_84 : decode cX4_readRota 84 = .ok (.goto 4, 3) := by decide +kernel
theorem dX4_readRota_87 : decode cX4_readRota 87 = .ok (.iconst 0, 1) := by decide +kernel
theorem dX4_readRota_88 : decode cX4_readRota 88 = .ok (.iastore, 1) := by decide +kernel
theorem dX4_readRota_89 : decode cX4_readRota 89 = .ok (.aload_n 0, 1) := by decide +kernel
theorem dX4_readRota_90 : decode cX4_readRota 90 = .ok (.dup, 1) := by decide +kernel
theorem dX4_readRota_91 : decode cX4_readRota 91 = .ok (.getfield 94, 3) := by decide +kernel
theorem dX4_readRota_94 : decode cX4_readRota 94 = .ok (.iconst 1, 1) := by decide +kernel
theorem dX4_readRota_95 : decode cX4_readRota 95 = .ok (.iadd, 1) := by decide +kernel
theorem dX4_readRota_96 : decode cX4_readRota 96 = .ok (.putfield 94, 3) := by decide +kernel
theorem dX4_readRota_99 : decode cX4_readRota 99 = .ok (.goto (-99), 3) := by decide +kernel
theorem dX4_readRota_102 : decode cX4_readRota 102 = .ok (.return_, 1) := by decide +kernel
theorem dX4_readMore_0 : decode cX4_readMore 0 = .ok (.iload_n 1, 1) := by decide +kernel
theorem dX4_readMore_1 : decode cX4_readMore 1 = .ok (.iconst 3, 1) := by decide +kernel
theorem dX4_readMore_2 : decode cX4_readMore 2 = .ok (.if_icmp .gt 45, 3) := by decide +kernel
theorem dX4_readMore_5 : decode cX4_readMore 5 = .ok (.aload_n 0, 1) := by decide +kernel
theorem dX4_readMore_6 : decode cX4_readMore 6 = .ok (.getfield 13, 3) := by decide +kernel
theorem dX4_readMore_9 : decode cX4_readMore 9 = .ok (.aload_n 0, 1) := by decide +kernel
theorem dX4_readMore_10 : decode cX4_readMore 10 = .ok (.getfield 104, 3) := by decide +kernel
theorem dX4_readMore_13 : decode cX4_readMore 13 = .ok (.iload_n 1, 1) := by decide +kernel
theorem dX4_readMore_14 : decode cX4_readMore 14 = .ok (.iastore, 1) := by decide +kernel
theorem dX4_readMore_15 : decode cX4_readMore 15 = .ok (.aload_n 0, 1) := by decide +kernel
theorem dX4_readMore_16 : decode cX4_readMore 16 = .ok (.getfield 13, 3) := by decide +kernel
theorem dX4_readMore_19 : decode cX4_readMore 19 = .ok (.iconst 4, 1) := by decide +kernel
theorem dX4_readMore_20 : decode cX4_readMore 20 = .ok (.aload_n 0, 1) := by decide +kernel
theorem dX4_readMore_21 : decode cX4_readMore 21 = .ok (.getfield 104, 3) := by decide +kernel
theorem dX4_readMore_24 : decode cX4_readMore 24 = .ok (.iadd, 1) := by decide +kernel
theorem dX4_readMore_25 : decode cX4_readMore 25 = .ok (.aload_n 0, 1) := by decide +kernel
theorem dX4_readMore_26 : decode cX4_readMore 26 = .ok (.iconst 0, 1) := by decide +kernel
theorem dX4_readMore_27 : decode cX4_readMore 27 = .ok (.bipush 6, 2) := by decide +kernel
theorem dX4_readMore_29 : decode cX4_readMore 29 = .ok (.iconst 0, 1) := by decide +kernel
theorem dX4_readMore_30 : decode cX4_readMore 30 = .ok (.invokevirtual 97, 3) := by decide +kernel
theorem dX4_readMore_33 : decode cX4_readMore 33 = .ok (.iastore, 1) := by decide +kernel
theorem dX4_readMore_34 : decode cX4_readMore 34 = .ok (.aload_n 0, 1) := by decide +kernel
theorem dX4_readMore_35 : decode cX4_readMore 35 = .ok (.dup, 1) := by decide +kernel
theorem dX4_readMore_36 : decode cX4_readMore 36 = .ok (.getfield 104, 3) := by decide +kernel
theorem dX4_readMore_39 : decode cX4_readMore 39 = .ok (.iconst 1, 1) := by decide +kernel
theorem dX4_readMore_40 : decode cX4_readMore 40 = .ok (.iadd, 1) := by decide +kernel
theorem dX4_readMore_41 : decode cX4_readMore 41 = .ok (.putfield 104, 3) := by decide +kernel
theorem dX4_readMore_44 : decode cX4_readMore 44 = .ok (.goto 132, 3) := by decide +kernel
theorem dX4_readMore_47 : decode cX4_readMore 47 = .ok (.iload_n 1, 1) := by decide +kernel
theorem dX4_readMore_48 : decode cX4_readMore 48 = .ok (.iconst 4, 1) := by decide +kernel
theorem dX4_readMore_49 : decode cX4_readMore 49 = .ok (.if_icmp .ne 32, 3) := by decide +kernel
theorem dX4_readMore_52 : decode cX4_readMore 52 = .ok (.aload_n 0, 1) := by decide +kernel
theorem dX4_readMore_53 : decode cX4_readMore 53 = .ok (.getfield 13, 3) := by decide +kernel
theorem dX4_readMore_56 : decode cX4_readMore 56 = .ok (.bipush 20, 2) := by decide +kernel
theorem dX4_readMore_58 : decode cX4_readMore 58 = .ok (.dup2, 1) := by decide +kernel
theorem dX4_readMore_59 : decode cX4_readMore 59 = .ok (.iaload, 1) := by decide +kernel
theorem dX4_readMore_60 : decode cX4_readMore 60 = .ok (.iconst 1, 1) := by decide +kernel
theorem dX4_readMore_61 : decode cX4_readMore 61 = .ok (.aload_n 0, 1) := by decide +kernel
theorem dX4_readMore_62 : decode cX4_readMore 62 = .ok (.iconst 0, 1) := by decide +kernel
theorem dX4_readMore_63 : decode cX4_readMore 63 = .ok (.bipush 11, 2) := by decide +kernel
theorem dX4_readMore_65 : decode cX4_readMore 65 = .ok (.aload_n 0, 1) := by decide +kernel
theorem dX4_readMore_66 : decode cX4_readMore 66 = .ok (.getfield 13, 3) := by decide +kernel
theorem dX4_readMore_69 : decode cX4_readMore 69 = .ok (.bipush 20, 2) := by decide +kernel
theorem dX4_readMore_71 : decode cX4_readMore 71 = .ok (.iaload, 1) := by decide +kernel
theorem dX4_readMore_72 : decode cX4_readMore 72 = .ok (.invokevirtual 97, 3) := by decide +kernel
theorem dX4_readMore_75 : decode cX4_readMore 75 = .ok (.ishl, 1) := by decide +kernel
theorem dX4_readMore_76 : decode cX4_readMore 76 = .ok (.ior, 1) := by decide +kernel
theorem dX4_readMore_77 : decode cX4_readMore 77 = .ok (.iastore, 1) := by decide +kernel
theorem dX4_readMore_78 : decode cX4_readMore 78 = .ok (.goto 98, 3) := by decide +kernel
theorem dX4_readMore_81 : decode cX4_readMore 81 = .ok (.iload_n 1, 1) := by decide +kernel
theorem dX4_readMore_82 : decode cX4_readMore 82 = .ok (.iconst 5, 1) := by decide +kernel
theorem dX4_readMore_83 : decode cX4_readMore 83 = .ok (.if_icmp .ne 63, 3) := by decide +kernel
theorem dX4_readMore_86 : decode cX4_readMore 86 = .ok (.aload_n 0, 1) := by decide +kernel
theorem dX4_readMore_87 : decode cX4_readMore 87 = .ok (.getfield 13, 3) := by decide +kernel
theorem dX4_readMore_90 : decode cX4_readMore 90 = .ok (.bipush 22, 2) := by decide +kernel
theorem dX4_readMore_92 : decode cX4_readMore 92 = .ok (.aload_n 0, 1) := by decide +kernel
theorem dX4_readMore_93 : decode cX4_readMore 93 = .ok (.getfield 13, 3) := by decide +kernel
theorem dX4_readMore_96 : decode cX4_readMore 96 = .ok (.bipush 32, 2) := by decide +kernel
theorem dX4_readMore_98 : decode cX4_readMore 98 = .ok (.iaload, 1) := by decide +kernel
theorem dX4_readMore_99 : decode cX4_readMore 99 = .ok (.iadd, 1) := by decide +kernel
theorem dX4_readMore_100 : decode cX4_readMore 100 = .ok (.aload_n 0, 1) := by decide +kernel
theorem dX4_readMore_101 : decode cX4_readMore 101 = .ok (.iconst 0, 1) := by decide +kernel
theorem dX4_readMore_102 : decode cX4_readMore 102 = .ok (.bipush 47, 2) := by decide +kernel
theorem dX4_readMore_104 : decode cX4_readMore 104 = .ok (.iconst 0, 1) := by decide +kernel
theorem dX4_readMore_105 : decode cX4_readMore 105 = .ok (.invokevirtual 97, 3) := by decide +kernel
theorem dX4_readMore_108 : decode cX4_readMore 108 = .ok (.iastore, 1) := by decide +kernel
theorem dX4_readMore_109 : decode cX4_readMore 109 = .ok (.aload_n 0, 1) := by decide +kernel
theorem dX4_readMore_110 : decode cX4_readMore 110 = .ok (.getfield 13, 3) := by decide +kernel
theorem dX4_readMore_113 : decode cX4_readMore 113 = .ok (.bipush 27, 2) := by decide +kernel
theorem dX4_readMore_115 : decode cX4_readMore 115 = .ok (.aload_n 0, 1) := by decide +kernel
theorem dX4_readMore_116 : decode cX4_readMore 116 = .ok (.getfield 13, 3) := by decide +kernel
theorem dX4_readMore_119 : decode cX4_readMore 119 = .ok (.bipush 32, 2) := by decide +kernel
theorem dX4_readMore_121 : decode cX4_readMore 121 = .ok (.iaload, 1) := by decide +kernel
theorem dX4_readMore_122 : decode cX4_readMore 122 = .ok (.iadd, 1) := by decide +kernel
theorem dX4_readMore_123 : decode cX4_readMore 123 = .ok (.aload_n 0, 1) := by decide +kernel
theorem dX4_readMore_124 : decode cX4_readMore 124 = .ok (.iconst 1, 1) := by decide +kernel
theorem dX4_readMore_125 : decode cX4_readMore 125 = .ok (.bipush 9, 2) := by decide +kernel
theorem dX4_readMore_127 : decode cX4_readMore 127 = .ok (.iconst 0, 1) := by decide +kernel
theorem dX4_readMore_128 : decode cX4_readMore 128 = .ok (.invokevirtual 97, 3) := by decide +kernel
theorem dX4_readMore_131 : decode cX4_readMore 131 = .ok (.iastore, 1) := by decide +kernel
theorem dX4_readMore_132 : decode cX4_readMore 132 = .ok (.aload_n 0, 1) := by decide +kernel
theorem dX4_readMore_133 : decode cX4_readMore 133 = .ok (.getfield 13, 3) := by decide +kernel
theorem dX4_readMore_136 : decode cX4_readMore 136 = .ok (.bipush 32, 2) := by decide +kernel
theorem dX4_readMore_138 : decode cX4_readMore 138 = .ok (.dup2, 1) := by decide +kernel
theorem dX4_readMore_139 : decode cX4_readMore 139 = .ok (.iaload, 1) := by decide +kernel
theorem dX4_readMore_140 : decode cX4_readMore 140 = .ok (.iconst 1, 1) := by decide +kernel
theorem dX4_readMore_141 : decode cX4_readMore 141 = .ok (.iadd, 1) := by decide +kernel
theorem dX4_readMore_142 : decode cX4_readMore 142 = .ok (.iastore, 1) := by decide +kernel
theorem dX4_readMore_143 : decode cX4_readMore 143 = .ok (.goto 33, 3) := by decide +kernel
theorem dX4_readMore_146 : decode cX4_readMore 146 = .ok (.iload_n 1, 1) := by decide +kernel
theorem dX4_readMore_147 : decode cX4_readMore 147 = .ok (.bipush 6, 2) := by decide +kernel
theorem dX4_readMore_149 : decode cX4_readMore 149 = .ok (.if_icmp .ne 10, 3) := by decide +kernel
theorem dX4_readMore_152 : decode cX4_readMore 152 = .ok (.aload_n 0, 1) := by decide +kernel
theorem dX4_readMore_153 : decode cX4_readMore 153 = .ok (.invokevirtual 107, 3) := by decide +kernel
theorem dX4_readMore_156 : decode cX4_readMore 156 = .ok (.goto 20, 3) := by decide +kernel
theorem dX4_readMore_159 : decode cX4_readMore 159 = .ok (.aload_n 0, 1) := by decide +kernel
theorem dX4_readMore_160 : decode cX4_readMore 160 = .ok (.getfield 13, 3) := by decide +kernel
theorem dX4_readMore_163 : decode cX4_readMore 163 = .ok (.bipush 21, 2) := by decide +kernel
theorem dX4_readMore_165 : decode cX4_readMore 165 = .ok (.aload_n 0, 1) := by decide +kernel
theorem dX4_readMore_166 : decode cX4_readMore 166 = .ok (.iconst 0, 1) := by decide +kernel
theorem dX4_readMore_167 : decode cX4_readMore 167 = .ok (.bipush 6, 2) := by decide +kernel
theorem dX4_readMore_169 : decode cX4_readMore 169 = .ok (.iconst 0, 1) := by decide +kernel
theorem dX4_readMore_170 : decode cX4_readMore 170 = .ok (.invokevirtual 97, 3) := by decide +kernel
theorem dX4_readMore_173 : decode cX4_readMore 173 = .ok (.iconst 3, 1) := by decide +kernel
theorem dX4_readMore_174 : decode cX4_readMore 174 = .ok (.isub, 1) := by decide +kernel
theorem dX4_readMore_175 : decode cX4_readMore 175 = .ok (.iastore, 1) := by decide +kernel
theorem dX4_readMore_176 : decode cX4_readMore 176 = .ok (.return_, 1) := by decide +kernel
theorem dX4_readLine_0 : decode cX4_readLine 0 = .ok (.aload_n 0, 1) := by decide +kernel
theorem dX4_readLine_1 : decode cX4_readLine 1 = .ok (.invokevirtual 110, 3) := by decide +kernel
theorem dX4_readLine_4 : decode cX4_readLine 4 = .ok (.istore_n 1, 1) := by decide +kernel
theorem dX4_readLine_5 : decode cX4_readLine 5 = .ok (.iload_n 1, 1) := by decide +kernel
theorem dX4_readLine_6 : decode cX4_readLine 6 = .ok (.i2l, 1) := by decide +kernel
theorem dX4_readLine_7 : decode cX4_readLine 7 = .ok (.lconst 0, 1) := by decide +kernel
theorem dX4_readLine_8 : decode cX4_readLine 8 = .ok (.ldc2_w 114, 3) := by decide +kernel
theorem dX4_readLine_11 : decode cX4_readLine 11 = .ok (.invokestatic 49, 3) := by decide +kernel
theorem dX4_readLine_14 : decode cX4_readLine 14 = .ok (.ifCond .ne 9, 3) := by decide +kernel
theorem dX4_readLine_17 : decode cX4_readLine 17 = .ok (.aload_n 0, 1) := by decide +kernel
theorem dX4_readLine_18 : decode cX4_readLine 18 = .ok (.iconst 2, 1) := by decide +kernel
theorem dX4_readLine_19 : decode cX4_readLine 19 = .ok (.invokevirtual 87, 3) := by decide +kernel
theorem dX4_readLine_22 : decode cX4_readLine 22 = .ok (.return_, 1) := by decide +kernel
theorem dX4_readLine_23 : decode cX4_readLine 23 = .ok (.iload_n 1, 1) := by decide +kernel
theorem dX4_readLine_24 : decode cX4_readLine 24 = .ok (.iconst 3, 1) := by decide +kernel
theorem dX4_readLine_25 : decode cX4_readLine 25 = .ok (.if_icmp .gt 11, 3) := by decide +kernel
theorem dX4_readLine_28 : decode cX4_readLine 28 = .ok (.aload_n 0, 1) := by decide +kernel
theorem dX4_readLine_29 : decode cX4_readLine 29 = .ok (.getfield 104, 3) := by decide +kernel
theorem dX4_readLine_32 : decode cX4_readLine 32 = .ok (.iconst 4, 1) := by decide +kernel
theorem dX4_readLine_33 : decode cX4_readLine 33 = .ok (.if_icmp .eq 19, 3) := by decide +kernel
theorem dX4_readLine_36 : decode cX4_readLine 36 = .ok (.iload_n 1, 1) := by decide +kernel
theorem dX4_readLine_37 : decode cX4_readLine 37 = .ok (.iconst 5, 1) := by decide +kernel
theorem dX4_readLine_38 : decode cX4_readLine 38 = .ok (.if_icmp .ne 19, 3) := by decide +kernel
theorem dX4_readLine_41 : decode cX4_readLine 41 = .ok (.aload_n 0, 1) := by decide +kernel
theorem dX4_readLine_42 : decode cX4_readLine 42 = .ok (.getfield 13, 3) := by decide +kernel
theorem dX4_readLine_45 : decode cX4_readLine 45 = .ok (.bipush 32, 2) := by decide +kernel
theorem dX4_readLine_47 : decode cX4_readLine 47 = .ok (.iaload, 1) := by decide +kernel
theorem dX4_readLine_48 : decode cX4_readLine 48 = .ok (.iconst 5, 1) := by decide +kernel
theorem dX4_readLine_49 : decode cX4_readLine 49 = .ok (.if_icmp .ne 8, 3) := by decide +kernel
theorem dX4_readLine_52 : decode cX4_readLine 52 = .ok (.aload_n 0, 1) := by decide +kernel
theorem dX4_readLine_53 : decode cX4_readLine 53 = .ok (.iconst 5, 1) := by decide +kernel
theorem dX4_readLine_54 : decode cX4_readLine 54 = .ok (.invokevirtual 87, 3) := by decide +kernel
theorem dX4_readLine_57 : decode cX4_readLine 57 = .ok (.iload_n 1, 1) := by decide +kernel
theorem dX4_readLine_58 : decode cX4_readLine 58 = .ok (.bipush 6, 2) := by decide +kernel
theorem dX4_readLine_60 : decode cX4_readLine 60 = .ok (.if_icmp .lt 20, 3) := by decide +kernel
theorem dX4_readLine_63 : decode cX4_readLine 63 = .ok (.aload_n 0, 1) := by decide +kernel
theorem dX4_readLine_64 : decode cX4_readLine 64 = .ok (.getfield 116, 3) := by decide +kernel
theorem dX4_readLine_67 : decode cX4_readLine 67 = .ok (.iload_n 1, 1) := by decide +kernel
theorem dX4_readLine_68 : decode cX4_readLine 68 = .ok (.ishr, 1) := by decide +kernel
theorem dX4_readLine_69 : decode cX4_readLine 69 = .ok (.iconst 1, 1) := by decide +kernel
theorem dX4_readLine_70 : decode cX4_readLine 70 = .ok (.iand, 1) := by decide +kernel
theorem dX4_readLine_71 : decode cX4_readLine 71 = .ok (.iconst 1, 1) := by decide +kernel
theorem dX4_readLine_72 : decode cX4_readLine 72 = .ok (.if_icmp .ne 8, 3) := by decide +kernel
theorem dX4_readLine_75 : decode cX4_readLine 75 = .ok (.aload_n 0, 1) := by decide +kernel
theorem dX4_readLine_76 : decode cX4_readLine 76 = .ok (.iconst 4, 1) := by decide +kernel
theorem dX4_readLine_77 : decode cX4_readLine 77 = .ok (.invokevirtual 87, 3) := by decide +kernel
theorem dX4_readLine_80 : decode cX4_readLine 80 = .ok (.aload_n 0, 1) := by decide +kernel
theorem dX4_readLine_81 : decode cX4_readLine 81 = .ok (.dup, 1) := by decide +kernel
theorem dX4_readLine_82 : decode cX4_readLine 82 = .ok (.getfield 116, 3) := by decide +kernel
theorem dX4_readLine_85 : decode cX4_readLine 85 = .ok (.iconst 1, 1) := by decide +kernel
theorem dX4_readLine_86 : decode cX4_readLine 86 = .ok (.iload_n 1, 1) := by decide +kernel
theorem dX4_readLine_87 : decode cX4_readLine 87 = .ok (.ishl, 1) := by decide +kernel
theorem dX4_readLine_88 : decode cX4_readLine 88 = .ok (.ior, 1) := by decide +kernel
theorem dX4_readLine_89 : decode cX4_readLine 89 = .ok (.putfield 116, 3) := by decide +kernel
theorem dX4_readLine_92 : decode cX4_readLine 92 = .ok (.aload_n 0, 1) := by decide +kernel
theorem dX4_readLine_93 : decode cX4_readLine 93 = .ok (.invokevirtual 91, 3) := by decide +kernel
theorem dX4_readLine_96 : decode cX4_readLine 96 = .ok (.aload_n 0, 1) := by decide +kernel
theorem dX4_readLine_97 : decode cX4_readLine 97 = .ok (.getfield 57, 3) := by decide +kernel
theorem dX4_readLine_100 : decode cX4_readLine 100 = .ok (.ifCond .le 4, 3) := by decide +kernel
theorem dX4_readLine_103 : decode cX4_readLine 103 = .ok (.return_, 1) := by decide +kernel
theorem dX4_readLine_104 : decode cX4_readLine 104 = .ok (.aload_n 0, 1) := by decide +kernel
theorem dX4_readLine_105 : decode cX4_readLine 105 = .ok (.iload_n 1, 1) := by decide +kernel
theorem dX4_readLine_106 : decode cX4_readLine 106 = .ok (.invokevirtual 119, 3) := by decide +kernel
theorem dX4_readLine_109 : decode cX4_readLine 109 = .ok (.aload_n 0, 1) := by decide +kernel
theorem dX4_readLine_110 : decode cX4_readLine 110 = .ok (.getfield 57, 3) := by decide +kernel
theorem dX4_readLine_113 : decode cX4_readLine 113 = .ok (.ifCond .ne 16, 3) := by decide +kernel
theorem dX4_readLine_116 : decode cX4_readLine 116 = .ok (.aload_n 0, 1) := by decide +kernel
theorem dX4_readLine_117 : decode cX4_readLine 117 = .ok (.getfield 66, 3) := by decide +kernel
theorem dX4_readLine_120 : decode cX4_readLine 120 = .ok (.iconst 3, 1) := by decide +kernel
theorem dX4_readLine_121 : decode cX4_readLine 121 = .ok (.if_icmp .eq 8, 3) := by decide +kernel
theorem dX4_readLine_124 : decode cX4_readLine 124 = .ok (.aload_n 0, 1) := by decide +kernel
theorem dX4_readLine_125 : decode cX4_readLine 125 = .ok (.iconst 2, 1) := by decide +kernel
theorem dX4_readLine_126 : decode cX4_readLine 126 = .ok (.invokevirtual 87, 3) := by decide +kernel
theorem dX4_readLine_129 : decode cX4_readLine 129 = .ok (.aload_n 0, 1) := by decide +kernel
theorem dX4_readLine_130 : decode cX4_readLine 130 = .ok (.invokevirtual 91, 3) := by decide +kernel
theorem dX4_readLine_133 : decode cX4_readLine 133 = .ok (.return_, 1) := by decide +kernel
theorem dX4_text_0 : decode cX4_text 0 = .ok (.aload_n 0, 1) := by decide +kernel
theorem dX4_text_1 : decode cX4_text 1 = .ok (.iconst 0, 1) := by decide +kernel
theorem dX4_text_2 : decode cX4_text 2 = .ok (.putfield 57, 3) := by decide +kernel
theorem dX4_text_5 : decode cX4_text 5 = .ok (.aload_n 0, 1) := by decide +kernel
theorem dX4_text_6 : decode cX4_text 6 = .ok (.iconst 0, 1) := by decide +kernel
theorem dX4_text_7 : decode cX4_text 7 = .ok (.putfield 69, 3) := by decide +kernel
theorem dX4_text_10 : decode cX4_text 10 = .ok (.aload_n 0, 1) := by decide +kernel
theorem dX4_text_11 : decode cX4_text 11 = .ok (.iconst 0, 1) := by decide +kernel
theorem dX4_text_12 : decode cX4_text 12 = .ok (.putfield 104, 3) := by decide +kernel
theorem dX4_text_15 : decode cX4_text 15 = .ok (.aload_n 0, 1) := by decide +kernel
theorem dX4_text_16 : decode cX4_text 16 = .ok (.iconst 0, 1) := by decide +kernel
theorem dX4_text_17 : decode cX4_text 17 = .ok (.putfield 94, 3) := by decide +kernel
theorem dX4_text_20 : decode cX4_text 20 = .ok (.aload_n 0, 1) := by decide +kernel
theorem dX4_text_21 : decode cX4_text 21 = .ok (.iconst 0, 1) := by decide +kernel
theorem dX4_text_22 : decode cX4_text 22 = .ok (.putfield 116, 3) := by decide +kernel
theorem dX4_text_25 : decode cX4_text 25 = .ok (.aload_n 0, 1) := by decide +kernel
theorem dX4_text_26 : decode cX4_text 26 = .ok (.iconst (-1), 1) := by decide +kernel
theorem dX4_text_27 : decode cX4_text 27 = .ok (.putfield 101, 3) := by decide +kernel
theorem dX4_text_30 : decode cX4_text 30 = .ok (.iconst 0, 1) := by decide +kernel
theorem dX4_text_31 : decode cX4_text 31 = .ok (.istore_n 1, 1) := by decide +kernel
theorem dX4_text_32 : decode cX4_text 32 = .ok (.iconst 0, 1) := by decide +kernel
theorem dX4_text_33 : decode cX4_text 33 = .ok (.istore_n 2, 1) := by decide +kernel
theorem dX4_text_34 : decode cX4_text 34 = .ok (.iload_n 2, 1) := by decide +kernel
theorem dX4_text_35 : decode cX4_text 35 = .ok (.bipush 33, 2) := by decide +kernel
theorem dX4_text_37 : decode cX4_text 37 = .ok (.if_icmp .ge 16, 3) := by decide +kernel
theorem dX4_text_40 : decode cX4_text 40 = .ok (.aload_n 0, 1) := by decide +kernel
theorem dX4_text_41 : decode cX4_text 41 = .ok (.getfield 13, 3) := by decide +kernel
theorem dX4_text_44 : decode cX4_text 44 = .ok (.iload_n 2, 1) := by decide +kernel
theorem dX4_text_45 : decode cX4_text 45 = .ok (.iconst 0, 1) := by decide +kernel
theorem dX4_text_46 : decode cX4_text 46 = .ok (.iastore, 1) := by decide +kernel
theorem dX4_text_47 : decode cX4_text 47 = .ok (.iinc 2 1, 3) := by decide +kernel
theorem dX4_text_50 : decode cX4_text 50 = .ok (.goto (-16), 3) := by decide +kernel
theorem dX4_text_53 : decode cX4_text 53 = .ok (.aload_n 0, 1) := by decide +kernel
theorem dX4_text_54 : decode cX4_text 54 = .ok (.invokevirtual 91, 3) := by decide +kernel
theorem dX4_text_57 : decode cX4_text 57 = .ok (.aload_n 0, 1) := by decide +kernel
theorem dX4_text_58 : decode cX4_text 58 = .ok (.getfield 57, 3) := by decide +kernel
theorem dX4_text_61 : decode cX4_text 61 = .ok (.ifCond .ne 20, 3) := by decide +kernel
theorem dX4_text_64 : decode cX4_text 64 = .ok (.aload_n 0, 1) := by decide +kernel
theorem dX4_text_65 : decode cX4_text 65 = .ok (.getfield 66, 3) := by decide +kernel
theorem dX4_text_68 : decode cX4_text 68 = .ok (.ifCond .eq 13, 3) := by decide +kernel
theorem dX4_text_71 : decode cX4_text 71 = .ok (.aload_n 0, 1) := by decide +kernel
theorem dX4_text_72 : decode cX4_text 72 = .ok (.invokevirtual 122, 3) := by decide +kernel
theorem dX4_text_75 : decode cX4_text 75 = .ok (.iinc 1 1, 3) := by decide +kernel
theorem dX4_text_78 : decode cX4_text 78 = .ok (.goto (-21), 3) := by decide +kernel
theorem dX4_text_81 : decode cX4_text 81 = .ok (.aload_n 0, 1) := by decide +kernel
theorem dX4_text_82 : decode cX4_text 82 = .ok (.getfield 57, 3) := by decide +kernel
theorem dX4_text_85 : decode cX4_text 85 = .ok (.ifCond .ne 20, 3) := by decide +kernel
theorem dX4_text_88 : decode cX4_text 88 = .ok (.aload_n 0, 1) := by decide +kernel
theorem dX4_text_89 : decode cX4_text 89 = .ok (.getfield 101, 3) := by decide +kernel
theorem dX4_text_92 : decode cX4_text 92 = .ok (.aload_n 0, 1) := by decide +kernel
theorem dX4_text_93 : decode cX4_text 93 = .ok (.getfield 104, 3) := by decide +kernel
theorem dX4_text_96 : decode cX4_text 96 = .ok (.if_icmp .lt 9, 3) := by decide +kernel
theorem dX4_text_99 : decode cX4_text 99 = .ok (.aload_n 0, 1) := by decide +kernel
theorem dX4_text_100 : decode cX4_text 100 = .ok (.bipush 6, 2) := by decide +kernel
theorem dX4_text_102 : decode cX4_text 102 = .ok (.invokevirtual 87, 3) := by decide +kernel
theorem dX4_text_105 : decode cX4_text 105 = .ok (.aload_n 0, 1) := by decide +kernel
theorem dX4_text_106 : decode cX4_text 106 = .ok (.iconst 0, 1) := by decide +kernel
theorem dX4_text_107 : decode cX4_text 107 = .ok (.putfield 53, 3) := by decide +kernel
theorem dX4_text_110 : decode cX4_text 110 = .ok (.aload_n 0, 1) := by decide +kernel
theorem dX4_text_111 : decode cX4_text 111 = .ok (.aload_n 0, 1) := by decide +kernel
theorem dX4_text_112 : decode cX4_text 112 = .ok (.getfield 57, 3) := by decide +kernel
theorem dX4_text_115 : decode cX4_text 115 = .ok (.putfield 125, 3) := by decide +kernel
theorem dX4_text_118 : decode cX4_text 118 = .ok (.aload_n 0, 1) := by decide +kernel
theorem dX4_text_119 : decode cX4_text 119 = .ok (.getfield 57, 3) := by decide +kernel
theorem dX4_text_122 : decode cX4_text 122 = .ok (.ifCond .le 11, 3) := by decide +kernel
theorem dX4_text_125 : decode cX4_text 125 = .ok (.bipush (-10), 2) := by decide +kernel
theorem dX4_text_127 : decode cX4_text 127 = .ok (.aload_n 0, 1) := by decide +kernel
theorem dX4_text_128 : decode cX4_text 128 = .ok (.getfield 63, 3) := by decide +kernel
theorem dX4_text_131 : decode cX4_text 131 = .ok (.isub, 1) := by decide +kernel
theorem dX4_text_132 : decode cX4_text 132 = .ok (.ireturn, 1) := by decide +kernel
theorem dX4_text_133 : decode cX4_text 133 = .ok (.iconst 0, 1) := by decide +kernel
theorem dX4_text_134 : decode cX4_text 134 = .ok (.istore_n 2, 1) := by decide +kernel
theorem dX4_text_135 : decode cX4_text 135 = .ok (.iload_n 2, 1) := by decide +kernel
theorem dX4_text_136 : decode cX4_text 136 = .ok (.bipush 33, 2) := by decide +kernel
theorem dX4_text_138 : decode cX4_text 138 = .ok (.if_icmp .ge 21, 3) := by decide +kernel
theorem dX4_text_141 : decode cX4_text 141 = .ok (.aload_n 0, 1) := by decide +kernel
theorem dX4_text_142 : decode cX4_text 142 = .ok (.getfield 7, 3) := by decide +kernel
theorem dX4_text_145 : decode cX4_text 145 = .ok (.iload_n 2, 1) := by decide +kernel
theorem dX4_text_146 : decode cX4_text 146 = .ok (.aload_n 0, 1) := by decide +kernel
theorem dX4_text_147 : decode cX4_text 147 = .ok (.getfield 13, 3) := by decide +kernel
theorem dX4_text_150 : decode cX4_text 150 = .ok (.iload_n 2, 1) := by decide +kernel
theorem dX4_text_151 : decode cX4_text 151 = .ok (.iaload, 1) := by decide +kernel
theorem dX4_text_152 : decode cX4_text 152 = .ok (.iastore, 1) := by decide +kernel
theorem dX4_text_153 : decode cX4_text 153 = .ok (.iinc 2 1, 3) := by decide +kernel
theorem dX4_text_156 : decode cX4_text 156 = .ok (.goto (-21), 3) := by decide +kernel
theorem dX4_text_159 : decode cX4_text 159 = .ok (.aload_n 0, 1) := by decide +kernel
theorem dX4_text_160 : decode cX4_text 160 = .ok (.aload_n 0, 1) := by decide +kernel
theorem dX4_text_161 : decode cX4_text 161 = .ok (.getfield 104, 3) := by decide +kernel
theorem dX4_text_164 : decode cX4_text 164 = .ok (.putfield 128, 3) := by decide +kernel
theorem dX4_text_167 : decode cX4_text 167 = .ok (.aload_n 0, 1) := by decide +kernel
theorem dX4_text_168 : decode cX4_text 168 = .ok (.iconst 0, 1) := by decide +kernel
theorem dX4_text_169 : decode cX4_text 169 = .ok (.putfield 131, 3) := by decide +kernel
theorem dX4_text_172 : decode cX4_text 172 = .ok (.aload_n 0, 1) := by decide +kernel
theorem dX4_text_173 : decode cX4_text 173 = .ok (.getfield 34, 3) := by decide +kernel
theorem dX4_text_176 : decode cX4_text 176 = .ok (.iconst 0, 1) := by decide +kernel
theorem dX4_text_177 : decode cX4_text 177 = .ok (.iconst 0, 1) := by decide +kernel
theorem dX4_text_178 : decode cX4_text 178 = .ok (.bastore, 1) := by decide +kernel
theorem dX4_text_179 : decode cX4_text 179 = .ok (.aload_n 0, 1) := by decide +kernel
theorem dX4_text_180 : decode cX4_text 180 = .ok (.getfield 34, 3) := by decide +kernel
theorem dX4_text_183 : decode cX4_text 183 = .ok (.iconst 1, 1) := by decide +kernel
theorem dX4_text_184 : decode cX4_text 184 = .ok (.iconst 0, 1) := by decide +kernel
theorem dX4_text_185 : decode cX4_text 185 = .ok (.bastore, 1) := by decide +kernel
theorem dX4_text_186 : decode cX4_text 186 = .ok (.iload_n 1, 1) := by decide +kernel
theorem dX4_text_187 : decode cX4_text 187 = .ok (.ireturn, 1) := by decide +kernel
theorem dX4_fault_0 : decode cX4_fault 0 = .ok (.aload_n 0, 1) := by decide +kernel
theorem dX4_fault_1 : decode cX4_fault 1 = .ok (.getfield 125, 3) := by decide +kernel
theorem dX4_fault_4 : decode cX4_fault 4 = .ok (.ireturn, 1) := by decide +kernel
theorem dX4_isMan_0 : decode cX4_isMan 0 = .ok (.iload_n 1, 1) := by decide +kernel
theorem dX4_isMan_1 : decode cX4_isMan 1 = .ok (.i2l, 1) := by decide +kernel
theorem dX4_isMan_2 : decode cX4_isMan 2 = .ok (.lconst 0, 1) := by decide +kernel
theorem dX4_isMan_3 : decode cX4_isMan 3 = .ok (.aload_n 0, 1) := by decide +kernel
theorem dX4_isMan_4 : decode cX4_isMan 4 = .ok (.getfield 128, 3) := by decide +kernel
theorem dX4_isMan_7 : decode cX4_isMan 7 = .ok (.iconst 1, 1) := by decide +kernel
theorem dX4_isMan_8 : decode cX4_isMan 8 = .ok (.isub, 1) := by decide +kernel
theorem dX4_isMan_9 : decode cX4_isMan 9 = .ok (.i2l, 1) := by decide +kernel
theorem dX4_isMan_10 : decode cX4_isMan 10 = .ok (.invokestatic 49, 3) := by decide +kernel
theorem dX4_isMan_13 : decode cX4_isMan 13 = .ok (.ireturn, 1) := by decide +kernel
theorem dX4_isHour_0 : decode cX4_isHour 0 = .ok (.iload_n 0, 1) := by decide +kernel
theorem dX4_isHour_1 : decode cX4_isHour 1 = .ok (.i2l, 1) := by decide +kernel
theorem dX4_isHour_2 : decode cX4_isHour 2 = .ok (.lconst 0, 1) := by decide +kernel
theorem dX4_isHour_3 : decode cX4_isHour 3 = .ok (.ldc2_w 134, 3) := by decide +kernel
theorem dX4_isHour_6 : decode cX4_isHour 6 = .ok (.invokestatic 49, 3) := by decide +kernel
theorem dX4_isHour_9 : decode cX4_isHour 9 = .ok (.ireturn, 1) := by decide +kernel
theorem dX4_isDeed_0 : decode cX4_isDeed 0 = .ok (.iload_n 1, 1) := by decide +kernel
theorem dX4_isDeed_1 : decode cX4_isDeed 1 = .ok (.i2l, 1) := by decide +kernel
theorem dX4_isDeed_2 : decode cX4_isDeed 2 = .ok (.lconst 0, 1) := by decide +kernel
theorem dX4_isDeed_3 : decode cX4_isDeed 3 = .ok (.aload_n 0, 1) := by decide +kernel
theorem dX4_isDeed_4 : decode cX4_isDeed 4 = .ok (.getfield 7, 3) := by decide +kernel
theorem dX4_isDeed_7 : decode cX4_isDeed 7 = .ok (.bipush 32, 2) := by decide +kernel
theorem dX4_isDeed_9 : decode cX4_isDeed 9 = .ok (.iaload, 1) := by decide +kernel
theorem dX4_isDeed_10 : decode cX4_isDeed 10 = .ok (.iconst 1, 1) := by decide +kernel
theorem dX4_isDeed_11 : decode cX4_isDeed 11 = .ok (.isub, 1) := by decide +kernel
theorem dX4_isDeed_12 : decode cX4_isDeed 12 = .ok (.i2l, 1) := by decide +kernel
theorem dX4_isDeed_13 : decode cX4_isDeed 13 = .ok (.invokestatic 49, 3) := by decide +kernel
theorem dX4_isDeed_16 : decode cX4_isDeed 16 = .ok (.ireturn, 1) := by decide +kernel
theorem dX4_standsIn_0 : decode cX4_standsIn 0 = .ok (.aload_n 0, 1) := by decide +kernel
theorem dX4_standsIn_1 : decode cX4_standsIn 1 = .ok (.getfield 7, 3) := by decide +kernel
theorem dX4_standsIn_4 : decode cX4_standsIn 4 = .ok (.bipush 8, 2) := by decide +kernel
theorem dX4_standsIn_6 : decode cX4_standsIn 6 = .ok (.iload_n 1, 1) := by decide +kernel
theorem dX4_standsIn_7 : decode cX4_standsIn 7 = .ok (.iadd, 1) := by decide +kernel
theorem dX4_standsIn_8 : decode cX4_standsIn 8 = .ok (.iaload, 1) := by decide +kernel
theorem dX4_standsIn_9 : decode cX4_standsIn 9 = .ok (.iconst 1, 1) := by decide +kernel
theorem dX4_standsIn_10 : decode cX4_standsIn 10 = .ok (.isub, 1) := by decide +kernel
theorem dX4_standsIn_11 : decode cX4_standsIn 11 = .ok (.ireturn, 1) := by decide +kernel
theorem dX4_stoodIn_0 : decode cX4_stoodIn 0 = .ok (.iload_n 1, 1) := by decide +kernel
theorem dX4_stoodIn_1 : decode cX4_stoodIn 1 = .ok (.iconst 4, 1) := by decide +kernel
theorem dX4_stoodIn_2 : decode cX4_stoodIn 2 = .ok (.idiv, 1) := by decide +kernel
theorem dX4_stoodIn_3 : decode cX4_stoodIn 3 = .ok (.istore_n 2, 1) := by decide +kernel
theorem dX4_stoodIn_4 : decode cX4_stoodIn 4 = .ok (.iload_n 1, 1) := by decide +kernel
theorem dX4_stoodIn_5 : decode cX4_stoodIn 5 = .ok (.iconst 4, 1) := by decide +kernel
theorem dX4_stoodIn_6 : decode cX4_stoodIn 6 = .ok (.idiv, 1) := by decide +kernel
theorem dX4_stoodIn_7 : decode cX4_stoodIn 7 = .ok (.istore_n 3, 1) := by decide +kernel
theorem dX4_stoodIn_8 : decode cX4_stoodIn 8 = .ok (.iload_n 3, 1) := by decide +kernel
theorem dX4_stoodIn_9 : decode cX4_stoodIn 9 = .ok (.ifCond .le 28, 3) := by decide +kernel
theorem dX4_stoodIn_12 : decode cX4_stoodIn 12 = .ok (.aload_n 0, 1) := by decide +kernel
theorem dX4_stoodIn_13 : decode cX4_stoodIn 13 = .ok (.iload_n 3, 1) := by decide +kernel
theorem dX4_stoodIn_14 : decode cX4_stoodIn 14 = .ok (.iconst 1, 1) := by decide +kernel
theorem dX4_stoodIn_15 : decode cX4_stoodIn 15 = .ok (.isub, 1) := by decide +kernel
theorem dX4_stoodIn_16 : decode cX4_stoodIn 16 = .ok (.invokevirtual 136, 3) := by decide +kernel
theorem dX4_stoodIn_19 : decode cX4_stoodIn 19 = .ok (.aload_n 0, 1) := by decide +kernel
theorem dX4_stoodIn_20 : decode cX4_stoodIn 20 = .ok (.iload_n 3, 1) := by decide +kernel
theorem dX4_stoodIn_21 : decode cX4_stoodIn 21 = .ok (.invokevirtual 136, 3) := by decide +kernel
theorem dX4_stoodIn_24 : decode cX4_stoodIn 24 = .ok (.if_icmp .ne 13, 3) := by decide +kernel
theorem dX4_stoodIn_27 : decode cX4_stoodIn 27 = .ok (.iload_n 3, 1) := by decide +kernel
theorem dX4_stoodIn_28 : decode cX4_stoodIn 28 = .ok (.iconst 1, 1) := by decide +kernel
theorem dX4_stoodIn_29 : decode cX4_stoodIn 29 = .ok (.isub, 1) := by decide +kernel
theorem dX4_stoodIn_30 : decode cX4_stoodIn 30 = .ok (.istore_n 2, 1) := by decide +kernel
theorem dX4_stoodIn_31 : decode cX4_stoodIn 31 = .ok (.iinc 3 (-1), 3) := by decide +kernel
theorem dX4_stoodIn_34 : decode cX4_stoodIn 34 = .ok (.goto (-26), 3) := by decide +kernel
theorem dX4_stoodIn_37 : decode cX4_stoodIn 37 = .ok (.iload_n 1, 1) := by decide +kernel
theorem dX4_stoodIn_38 : decode cX4_stoodIn 38 = .ok (.iconst 4, 1) := by decide +kernel
theorem dX4_stoodIn_39 : decode cX4_stoodIn 39 = .ok (.iload_n 2, 1) := by decide +kernel
theorem dX4_stoodIn_40 : decode cX4_stoodIn 40 = .ok (.imul, 1) := by decide +kernel
theorem dX4_stoodIn_41 : decode cX4_stoodIn 41 = .ok (.isub, 1) := by decide +kernel
theorem dX4_stoodIn_42 : decode cX4_stoodIn 42 = .ok (.ireturn, 1) := by decide +kernel
theorem dX4_slipIn_0 : decode cX4_slipIn 0 = .ok (.aload_n 0, 1) := by decide +kernel
theorem dX4_slipIn_1 : decode cX4_slipIn 1 = .ok (.getfield 7, 3) := by decide +kernel
theorem dX4_slipIn_4 : decode cX4_slipIn 4 = .ok (.iload_n 1, 1) := by decide +kernel
theorem dX4_slipIn_5 : decode cX4_slipIn 5 = .ok (.iaload, 1) := by decide +kernel
theorem dX4_slipIn_6 : decode cX4_slipIn 6 = .ok (.tableswitch 41 0 2 #[26, 28, 30], 26) := by decide +kernel
theorem dX4_slipIn_32 : decode cX4_slipIn 32 = .ok (.iconst 0, 1) := by decide +kernel
theorem dX4_slipIn_33 : decode cX4_slipIn 33 = .ok (.ireturn, 1) := by decide +kernel
theorem dX4_slipIn_34 : decode cX4_slipIn 34 = .ok (.iconst (-1), 1) := by decide +kernel
theorem dX4_slipIn_35 : decode cX4_slipIn 35 = .ok (.ireturn, 1) := by decide +kernel
theorem dX4_slipIn_36 : decode cX4_slipIn 36 = .ok (.iconst (-1), 1) := by decide +kernel
theorem dX4_slipIn_37 : decode cX4_slipIn 37 = .ok (.aload_n 0, 1) := by decide +kernel
theorem dX4_slipIn_38 : decode cX4_slipIn 38 = .ok (.iload_n 2, 1) := by decide +kernel
theorem dX4_slipIn_39 : decode cX4_slipIn 39 = .ok (.invokevirtual 139, 3) := by decide +kernel
theorem dX4_slipIn_42 : decode cX4_slipIn 42 = .ok (.bipush 8, 2) := by decide +kernel
theorem dX4_slipIn_44 : decode cX4_slipIn 44 = .ok (.idiv, 1) := by decide +kernel
theorem dX4_slipIn_45 : decode cX4_slipIn 45 = .ok (.isub, 1) := by decide +kernel
theorem dX4_slipIn_46 : decode cX4_slipIn 46 = .ok (.ireturn, 1) := by decide +kernel
theorem dX4_slipIn_47 : decode cX4_slipIn 47 = .ok (.iload_n 2, 1) := by decide +kernel
theorem dX4_slipIn_48 : decode cX4_slipIn 48 = .ok (.iconst 4, 1) := by decide +kernel
theorem dX4_slipIn_49 : decode cX4_slipIn 49 = .ok (.idiv, 1) := by decide +kernel
theorem dX4_slipIn_50 : decode cX4_slipIn 50 = .ok (.iconst 2, 1) := by decide +kernel
theorem dX4_slipIn_51 : decode cX4_slipIn 51 = .ok (.irem, 1) := by decide +kernel
theorem dX4_slipIn_52 : decode cX4_slipIn 52 = .ok (.ifCond .ne 7, 3) := by decide +kernel
theorem dX4_slipIn_55 : decode cX4_slipIn 55 = .ok (.iconst 1, 1) := by decide +kernel
theorem dX4_slipIn_56 : decode cX4_slipIn 56 = .ok (.goto 4, 3) := by decide +kernel
theorem dX4_slipIn_59 : decode cX4_slipIn 59 = .ok (.iconst (-1), 1) := by decide +kernel
theorem dX4_slipIn_60 : decode cX4_slipIn 60 = .ok (.ireturn, 1) := by decide +kernel
theorem dX4_laysReads_0 : decode cX4_laysReads 0 = .ok (.iconst 0, 1) := by decide +kernel
theorem dX4_laysReads_1 : decode cX4_laysReads 1 = .ok (.istore_n 1, 1) := by decide +kernel
theorem dX4_laysReads_2 : decode cX4_laysReads 2 = .ok (.iload_n 1, 1) := by decide +kernel
theorem dX4_laysReads_3 : decode cX4_laysReads 3 = .ok (.bipush 48, 2) := by decide +kernel
theorem dX4_laysReads_5 : decode cX4_laysReads 5 = .ok (.if_icmp .ge 122, 3) := by decide +kernel
theorem dX4_laysReads_8 : decode cX4_laysReads 8 = .ok (.aload_n 0, 1) := by decide +kernel
theorem dX4_laysReads_9 : decode cX4_laysReads 9 = .ok (.iload_n 1, 1) := by decide +kernel
theorem dX4_laysReads_10 : decode cX4_laysReads 10 = .ok (.iconst 4, 1) := by decide +kernel
theorem dX4_laysReads_11 : decode cX4_laysReads 11 = .ok (.idiv, 1) := by decide +kernel
theorem dX4_laysReads_12 : decode cX4_laysReads 12 = .ok (.invokevirtual 136, 3) := by decide +kernel
theorem dX4_laysReads_15 : decode cX4_laysReads 15 = .ok (.istore_n 2, 1) := by decide +kernel
theorem dX4_laysReads_16 : decode cX4_laysReads 16 = .ok (.iload_n 2, 1) := by decide +kernel
theorem dX4_laysReads_17 : decode cX4_laysReads 17 = .ok (.ifCond .lt 20, 3) := by decide +kernel
theorem dX4_laysReads_20 : decode cX4_laysReads 20 = .ok (.aload_n 0, 1) := by decide +kernel
theorem dX4_laysReads_21 : decode cX4_laysReads 21 = .ok (.getfield 7, 3) := by decide +kernel
theorem dX4_laysReads_24 : decode cX4_laysReads 24 = .ok (.bipush 20, 2) := by decide +kernel
theorem dX4_laysReads_26 : decode cX4_laysReads 26 = .ok (.iaload, 1) := by decide +kernel
theorem dX4_laysReads_27 : decode cX4_laysReads 27 = .ok (.iload_n 1, 1) := by decide +kernel
theorem dX4_laysReads_28 : decode cX4_laysReads 28 = .ok (.iconst 4, 1) := by decide +kernel
theorem dX4_laysReads_29 : decode cX4_laysReads 29 = .ok (.idiv, 1) := by decide +kernel
theorem dX4_laysReads_30 : decode cX4_laysReads 30 = .ok (.ishr, 1) := by decide +kernel
theorem dX4_laysReads_31 : decode cX4_laysReads 31 = .ok (.iconst 1, 1) := by decide +kernel
theorem dX4_laysReads_32 : decode cX4_laysReads 32 = .ok (.iand, 1) := by decide +kernel
theorem dX4_laysReads_33 : decode cX4_laysReads 33 = .ok (.iconst 1, 1) := by decide +kernel
theorem dX4_laysReads_34 : decode cX4_laysReads 34 = .ok (.if_icmp .ne 7, 3) := by decide +kernel
theorem dX4_laysReads_37 : decode cX4_laysReads 37 = .ok (.iconst 1, 1) := by decide +kernel
theorem dX4_laysReads_38 : decode cX4_laysReads 38 = .ok (.goto 4, 3) := by decide +kernel
theorem dX4_laysReads_41 : decode cX4_laysReads 41 = .ok (.iconst 0, 1) := by decide +kernel
theorem dX4_laysReads_42 : decode cX4_laysReads 42 = .ok (.istore_n 3, 1) := by decide +kernel
theorem dX4_laysReads_43 : decode cX4_laysReads 43 = .ok (.iload_n 3, 1) := by decide +kernel
theorem dX4_laysReads_44 : decode cX4_laysReads 44 = .ok (.ifCond .eq 7, 3) := by decide +kernel
theorem dX4_laysReads_47 : decode cX4_laysReads 47 = .ok (.iconst 0, 1) := by decide +kernel
theorem dX4_laysReads_48 : decode cX4_laysReads 48 = .ok (.goto 33, 3) := by decide +kernel
theorem dX4_laysReads_51 : decode cX4_laysReads 51 = .ok (.iload_n 1, 1) := by decide +kernel
theorem dX4_laysReads_52 : decode cX4_laysReads 52 = .ok (.aload_n 0, 1) := by decide +kernel
theorem dX4_laysReads_53 : decode cX4_laysReads 53 = .ok (.iload_n 2, 1) := by decide +kernel
theorem dX4_laysReads_54 : decode cX4_laysReads 54 = .ok (.iload_n 1, 1) := by decide +kernel
theorem dX4_laysReads_55 : decode cX4_laysReads 55 = .ok (.invokevirtual 142, 3) := by decide +kernel
theorem dX4_laysReads_58 : decode cX4_laysReads 58 = .ok (.iadd, 1) := by decide +kernel
theorem dX4_laysReads_59 : decode cX4_laysReads 59 = .ok (.aload_n 0, 1) := by decide +kernel
theorem dX4_laysReads_60 : decode cX4_laysReads 60 = .ok (.getfield 7, 3) := by decide +kernel
theorem dX4_laysReads_63 : decode cX4_laysReads 63 = .ok (.iconst 4, 1) := by decide +kernel
theorem dX4_laysReads_64 : decode cX4_laysReads 64 = .ok (.iload_n 2, 1) := by decide +kernel
theorem dX4_laysReads_65 : decode cX4_laysReads 65 = .ok (.iadd, 1) := by decide +kernel
theorem dX4_laysReads_66 : decode cX4_laysReads 66 = .ok (.iaload, 1) := by decide +kernel
theorem dX4_laysReads_67 : decode cX4_laysReads 67 = .ok (.iadd, 1) := by decide +kernel
theorem dX4_laysReads_68 : decode cX4_laysReads 68 = .ok (.aload_n 0, 1) := by decide +kernel
theorem dX4_laysReads_69 : decode cX4_laysReads 69 = .ok (.getfield 7, 3) := by decide +kernel
theorem dX4_laysReads_72 : decode cX4_laysReads 72 = .ok (.bipush 21, 2) := by decide +kernel
theorem dX4_laysReads_74 : decode cX4_laysReads 74 = .ok (.iaload, 1) := by decide +kernel
theorem dX4_laysReads_75 : decode cX4_laysReads 75 = .ok (.iadd, 1) := by decide +kernel
theorem dX4_laysReads_76 : decode cX4_laysReads 76 = .ok (.iconst 3, 1) := by decide +kernel
theorem dX4_laysReads_77 : decode cX4_laysReads 77 = .ok (.iadd, 1) := by decide +kernel
theorem dX4_laysReads_78 : decode cX4_laysReads 78 = .ok (.bipush 6, 2) := by decide +kernel
theorem dX4_laysReads_80 : decode cX4_laysReads 80 = .ok (.isub, 1) := by decide +kernel
theorem dX4_laysReads_81 : decode cX4_laysReads 81 = .ok (.istore 4, 2) := by decide +kernel
theorem dX4_laysReads_83 : decode cX4_laysReads 83 = .ok (.aload_n 0, 1) := by decide +kernel
theorem dX4_laysReads_84 : decode cX4_laysReads 84 = .ok (.getfield 25, 3) := by decide +kernel
theorem dX4_laysReads_87 : decode cX4_laysReads 87 = .ok (.iload_n 1, 1) := by decide +kernel
theorem dX4_laysReads_88 : decode cX4_laysReads 88 = .ok (.iload_n 3, 1) := by decide +kernel
theorem dX4_laysReads_89 : decode cX4_laysReads 89 = .ok (.ifCond .eq 8, 3) := by decide +kernel
theorem dX4_laysReads_92 : decode cX4_laysReads 92 = .ok (.bipush (-4), 2) := by decide +kernel
theorem dX4_laysReads_94 : decode cX4_laysReads 94 = .ok (.goto 26, 3) := by decide +kernel
theorem dX4_laysReads_97 : decode cX4_laysReads 97 = .ok (.iload 4, 2) := by decide +kernel
theorem dX4_laysReads_99 : decode cX4_laysReads 99 = .ok (.ifCond .ge 7, 3) := by decide +kernel
theorem dX4_laysReads_102 : decode cX4_laysReads 102 = .ok (.iconst 0, 1) := by decide +kernel
theorem dX4_laysReads_103 : decode cX4_laysReads 103 = .ok (.goto 17, 3) := by decide +kernel
theorem dX4_laysReads_106 : decode cX4_laysReads 106 = .ok (.iload 4, 2) := by decide +kernel
theorem dX4_laysReads_108 : decode cX4_laysReads 108 = .ok (.bipush 47, 2) := by decide +kernel
theorem dX4_laysReads_110 : decode cX4_laysReads 110 = .ok (.if_icmp .le 8, 3) := by decide +kernel
theorem dX4_laysReads_113 : decode cX4_laysReads 113 = .ok (.bipush 47, 2) := by decide +kernel
theorem dX4_laysReads_115 : decode cX4_laysReads 115 = .ok (.goto 5, 3) := by decide +kernel
theorem dX4_laysReads_118 : decode cX4_laysReads 118 = .ok (.iload 4, 2) := by decide +kernel
theorem dX4_laysReads_120 : decode cX4_laysReads 120 = .ok (.iastore, 1) := by decide +kernel
theorem dX4_laysReads_121 : decode cX4_laysReads 121 = .ok (.iinc 1 1, 3) := by decide +kernel
theorem dX4_laysReads_124 : decode cX4_laysReads 124 = .ok (.goto (-122), 3) := by decide +kernel
theorem dX4_laysReads_127 : decode cX4_laysReads 127 = .ok (.return_, 1) := by decide +kernel
theorem dX4_doneIn_0 : decode cX4_doneIn 0 = .ok (.iconst 0, 1) := by decide +kernel
theorem dX4_doneIn_1 : decode cX4_doneIn 1 = .ok (.istore_n 2, 1) := by decide +kernel
theorem dX4_doneIn_2 : decode cX4_doneIn 2 = .ok (.iload_n 2, 1) := by decide +kernel
theorem dX4_doneIn_3 : decode cX4_doneIn 3 = .ok (.bipush 48, 2) := by decide +kernel
theorem dX4_doneIn_5 : decode cX4_doneIn 5 = .ok (.if_icmp .ge 40, 3) := by decide +kernel
theorem dX4_doneIn_8 : decode cX4_doneIn 8 = .ok (.aload_n 0, 1) := by decide +kernel
theorem dX4_doneIn_9 : decode cX4_doneIn 9 = .ok (.getfield 25, 3) := by decide +kernel
theorem dX4_doneIn_12 : decode cX4_doneIn 12 = .ok (.iload_n 2, 1) := by decide +kernel
theorem dX4_doneIn_13 : decode cX4_doneIn 13 = .ok (.iaload, 1) := by decide +kernel
theorem dX4_doneIn_14 : decode cX4_doneIn 14 = .ok (.bipush (-4), 2) := by decide +kernel
theorem dX4_doneIn_16 : decode cX4_doneIn 16 = .ok (.if_icmp .eq 23, 3) := by decide +kernel
theorem dX4_doneIn_19 : decode cX4_doneIn 19 = .ok (.aload_n 0, 1) := by decide +kernel
theorem dX4_doneIn_20 : decode cX4_doneIn 20 = .ok (.getfield 25, 3) := by decide +kernel
theorem dX4_doneIn_23 : decode cX4_doneIn 23 = .ok (.iload_n 2, 1) := by decide +kernel
theorem dX4_doneIn_24 : decode cX4_doneIn 24 = .ok (.iaload, 1) := by decide +kernel
theorem dX4_doneIn_25 : decode cX4_doneIn 25 = .ok (.aload_n 0, 1) := by decide +kernel
theorem dX4_doneIn_26 : decode cX4_doneIn 26 = .ok (.getfield 7, 3) := by decide +kernel
theorem dX4_doneIn_29 : decode cX4_doneIn 29 = .ok (.bipush 22, 2) := by decide +kernel
theorem dX4_doneIn_31 : decode cX4_doneIn 31 = .ok (.iload_n 1, 1) := by decide +kernel
theorem dX4_doneIn_32 : decode cX4_doneIn 32 = .ok (.iadd, 1) := by decide +kernel
theorem dX4_doneIn_33 : decode cX4_doneIn 33 = .ok (.iaload, 1) := by decide +kernel
theorem dX4_doneIn_34 : decode cX4_doneIn 34 = .ok (.if_icmp .lt 5, 3) := by decide +kernel
theorem dX4_doneIn_37 : decode cX4_doneIn 37 = .ok (.iload_n 2, 1) := by decide +kernel
theorem dX4_doneIn_38 : decode cX4_doneIn 38 = .ok (.ireturn, 1) := by decide +kernel
theorem dX4_doneIn_39 : decode cX4_doneIn 39 = .ok (.iinc 2 1, 3) := by decide +kernel
theorem dX4_doneIn_42 : decode cX4_doneIn 42 = .ok (.goto (-40), 3) := by decide +kernel
theorem dX4_doneIn_45 : decode cX4_doneIn 45 = .ok (.bipush (-4), 2) := by decide +kernel
theorem dX4_doneIn_47 : decode cX4_doneIn 47 = .ok (.ireturn, 1) := by decide +kernel
theorem dX4_harmOf_0 : decode cX4_harmOf 0 = .ok (.aload_n 0, 1) := by decide +kernel
theorem dX4_harmOf_1 : decode cX4_harmOf 1 = .ok (.iload_n 1, 1) := by decide +kernel
theorem dX4_harmOf_2 : decode cX4_harmOf 2 = .ok (.invokevirtual 146, 3) := by decide +kernel
theorem dX4_harmOf_5 : decode cX4_harmOf 5 = .ok (.istore_n 2, 1) := by decide +kernel
theorem dX4_harmOf_6 : decode cX4_harmOf 6 = .ok (.iload_n 2, 1) := by decide +kernel
theorem dX4_harmOf_7 : decode cX4_harmOf 7 = .ok (.aload_n 0, 1) := by decide +kernel
theorem dX4_harmOf_8 : decode cX4_harmOf 8 = .ok (.getfield 7, 3) := by decide +kernel
theorem dX4_harmOf_11 : decode cX4_harmOf 11 = .ok (.bipush 22, 2) := by decide +kernel
theorem dX4_harmOf_13 : decode cX4_harmOf 13 = .ok (.iload_n 1, 1) := by decide +kernel
theorem dX4_harmOf_14 : decode cX4_harmOf 14 = .ok (.iadd, 1) := by decide +kernel
theorem dX4_harmOf_15 : decode cX4_harmOf 15 = .ok (.iaload, 1) := by decide +kernel
theorem dX4_harmOf_16 : decode cX4_harmOf 16 = .ok (.if_icmp .le 17, 3) := by decide +kernel
theorem dX4_harmOf_19 : decode cX4_harmOf 19 = .ok (.iload_n 2, 1) := by decide +kernel
theorem dX4_harmOf_20 : decode cX4_harmOf 20 = .ok (.aload_n 0, 1) := by decide +kernel
theorem dX4_harmOf_21 : decode cX4_harmOf 21 = .ok (.getfield 7, 3) := by decide +kernel
theorem dX4_harmOf_24 : decode cX4_harmOf 24 = .ok (.bipush 22, 2) := by decide +kernel
theorem dX4_harmOf_26 : decode cX4_harmOf 26 = .ok (.iload_n 1, 1) := by decide +kernel
theorem dX4_harmOf_27 : decode cX4_harmOf 27 = .ok (.iadd, 1) := by decide +kernel
theorem dX4_harmOf_28 : decode cX4_harmOf 28 = .ok (.iaload, 1) := by decide +kernel
theorem dX4_harmOf_29 : decode cX4_harmOf 29 = .ok (.isub, 1) := by decide +kernel
theorem dX4_harmOf_30 : decode cX4_harmOf 30 = .ok (.goto 14, 3) := by decide +kernel
theorem dX4_harmOf_33 : decode cX4_harmOf 33 = .ok (.aload_n 0, 1) := by decide +kernel
theorem dX4_harmOf_34 : decode cX4_harmOf 34 = .ok (.getfield 7, 3) := by decide +kernel
theorem dX4_harmOf_37 : decode cX4_harmOf 37 = .ok (.bipush 22, 2) := by decide +kernel
theorem dX4_harmOf_39 : decode cX4_harmOf 39 = .ok (.iload_n 1, 1) := by decide +kernel
theorem dX4_harmOf_40 : decode cX4_harmOf 40 = .ok (.iadd, 1) := by decide +kernel
theorem dX4_harmOf_41 : decode cX4_harmOf 41 = .ok (.iaload, 1) := by decide +kernel
theorem dX4_harmOf_42 : decode cX4_harmOf 42 = .ok (.iload_n 2, 1) := by decide +kernel
theorem dX4_harmOf_43 : decode cX4_harmOf 43 = .ok (.isub, 1) := by decide +kernel
theorem dX4_harmOf_44 : decode cX4_harmOf 44 = .ok (.istore_n 3, 1) := by decide +kernel
theorem dX4_harmOf_45 : decode cX4_harmOf 45 = .ok (.aload_n 0, 1) := by decide +kernel
theorem dX4_harmOf_46 : decode cX4_harmOf 46 = .ok (.getfield 7, 3) := by decide +kernel
theorem dX4_harmOf_49 : decode cX4_harmOf 49 = .ok (.bipush 27, 2) := by decide +kernel
theorem dX4_harmOf_51 : decode cX4_harmOf 51 = .ok (.iload_n 1, 1) := by decide +kernel
theorem dX4_harmOf_52 : decode cX4_harmOf 52 = .ok (.iadd, 1) := by decide +kernel
theorem dX4_harmOf_53 : decode cX4_harmOf 53 = .ok (.iaload, 1) := by decide +kernel
theorem dX4_harmOf_54 : decode cX4_harmOf 54 = .ok (.iload_n 2, 1) := by decide +kernel
theorem dX4_harmOf_55 : decode cX4_harmOf 55 = .ok (.bipush (-4), 2) := by decide +kernel
theorem dX4_harmOf_57 : decode cX4_harmOf 57 = .ok (.if_icmp .ne 8, 3) := by decide +kernel
theorem dX4_harmOf_60 : decode cX4_harmOf 60 = .ok (.bipush 48, 2) := by decide +kernel
theorem dX4_harmOf_62 : decode cX4_harmOf 62 = .ok (.goto 4, 3) := by decide +kernel
theorem dX4_harmOf_65 : decode cX4_harmOf 65 = .ok (.iload_n 3, 1) := by decide +kernel
theorem dX4_harmOf_66 : decode cX4_harmOf 66 = .ok (.imul, 1) := by decide +kernel
theorem dX4_harmOf_67 : decode cX4_harmOf 67 = .ok (.ireturn, 1) := by decide +kernel
theorem dX4_harm_0 : decode cX4_harm 0 = .ok (.aload_n 0, 1) := by decide +kernel
theorem dX4_harm_1 : decode cX4_harm 1 = .ok (.invokevirtual 149, 3) := by decide +kernel
theorem dX4_harm_4 : decode cX4_harm 4 = .ok (.iconst 0, 1) := by decide +kernel
theorem dX4_harm_5 : decode cX4_harm 5 = .ok (.istore_n 1, 1) := by decide +kernel
theorem dX4_harm_6 : decode cX4_harm 6 = .ok (.iconst 0, 1) := by decide +kernel
theorem dX4_harm_7 : decode cX4_harm 7 = .ok (.istore_n 2, 1) := by decide +kernel
theorem dX4_harm_8 : decode cX4_harm 8 = .ok (.iload_n 2, 1) := by decide +kernel
theorem dX4_harm_9 : decode cX4_harm 9 = .ok (.aload_n 0, 1) := by decide +kernel
theorem dX4_harm_10 : decode cX4_harm 10 = .ok (.getfield 7, 3) := by decide +kernel
theorem dX4_harm_13 : decode cX4_harm 13 = .ok (.bipush 32, 2) := by decide +kernel
theorem dX4_harm_15 : decode cX4_harm 15 = .ok (.iaload, 1) := by decide +kernel
theorem dX4_harm_16 : decode cX4_harm 16 = .ok (.if_icmp .ge 17, 3) := by decide +kernel
theorem dX4_harm_19 : decode cX4_harm 19 = .ok (.iload_n 1, 1) := by decide +kernel
theorem dX4_harm_20 : decode cX4_harm 20 = .ok (.aload_n 0, 1) := by decide +kernel
theorem dX4_harm_21 : decode cX4_harm 21 = .ok (.iload_n 2, 1) := by decide +kernel
theorem dX4_harm_22 : decode cX4_harm 22 = .ok (.invokevirtual 152, 3) := by decide +kernel
theorem dX4_harm_25 : decode cX4_harm 25 = .ok (.iadd, 1) := by decide +kernel
theorem dX4_harm_26 : decode cX4_harm 26 = .ok (.istore_n 1, 1) := by decide +kernel
theorem dX4_harm_27 : decode cX4_harm 27 = .ok (.iinc 2 1, 3) := by decide +kernel
theorem dX4_harm_30 : decode cX4_harm 30 = .ok (.goto (-22), 3) := by decide +kernel
theorem dX4_harm_33 : decode cX4_harm 33 = .ok (.iload_n 1, 1) := by decide +kernel
theorem dX4_harm_34 : decode cX4_harm 34 = .ok (.ireturn, 1) := by decide +kernel
theorem dX4_hoursOf_0 : decode cX4_hoursOf 0 = .ok (.iconst 0, 1) := by decide +kernel
theorem dX4_hoursOf_1 : decode cX4_hoursOf 1 = .ok (.istore_n 2, 1) := by decide +kernel
theorem dX4_hoursOf_2 : decode cX4_hoursOf 2 = .ok (.iconst 0, 1) := by decide +kernel
theorem dX4_hoursOf_3 : decode cX4_hoursOf 3 = .ok (.istore_n 3, 1) := by decide +kernel
theorem dX4_hoursOf_4 : decode cX4_hoursOf 4 = .ok (.iload_n 3, 1) := by decide +kernel
theorem dX4_hoursOf_5 : decode cX4_hoursOf 5 = .ok (.bipush 12, 2) := by decide +kernel
theorem dX4_hoursOf_7 : decode cX4_hoursOf 7 = .ok (.if_icmp .ge 42, 3) := by decide +kernel
theorem dX4_hoursOf_10 : decode cX4_hoursOf 10 = .ok (.iload_n 2, 1) := by decide +kernel
theorem dX4_hoursOf_11 : decode cX4_hoursOf 11 = .ok (.aload_n 0, 1) := by decide +kernel
theorem dX4_hoursOf_12 : decode cX4_hoursOf 12 = .ok (.iload_n 3, 1) := by decide +kernel
theorem dX4_hoursOf_13 : decode cX4_hoursOf 13 = .ok (.invokevirtual 136, 3) := by decide +kernel
theorem dX4_hoursOf_16 : decode cX4_hoursOf 16 = .ok (.ifCond .lt 24, 3) := by decide +kernel
theorem dX4_hoursOf_19 : decode cX4_hoursOf 19 = .ok (.iload_n 1, 1) := by decide +kernel
theorem dX4_hoursOf_20 : decode cX4_hoursOf 20 = .ok (.bipush (-4), 2) := by decide +kernel
theorem dX4_hoursOf_22 : decode cX4_hoursOf 22 = .ok (.if_icmp .eq 12, 3) := by decide +kernel
theorem dX4_hoursOf_25 : decode cX4_hoursOf 25 = .ok (.aload_n 0, 1) := by decide +kernel
theorem dX4_hoursOf_26 : decode cX4_hoursOf 26 = .ok (.iload_n 3, 1) := by decide +kernel
theorem dX4_hoursOf_27 : decode cX4_hoursOf 27 = .ok (.invokevirtual 136, 3) := by decide +kernel
theorem dX4_hoursOf_30 : decode cX4_hoursOf 30 = .ok (.iload_n 1, 1) := by decide +kernel
theorem dX4_hoursOf_31 : decode cX4_hoursOf 31 = .ok (.if_icmp .ne 9, 3) := by decide +kernel
theorem dX4_hoursOf_34 : decode cX4_hoursOf 34 = .ok (.iconst 1, 1) := by decide +kernel
theorem dX4_hoursOf_35 : decode cX4_hoursOf 35 = .ok (.iload_n 3, 1) := by decide +kernel
theorem dX4_hoursOf_36 : decode cX4_hoursOf 36 = .ok (.ishl, 1) := by decide +kernel
theorem dX4_hoursOf_37 : decode cX4_hoursOf 37 = .ok (.goto 4, 3) := by decide +kernel
theorem dX4_hoursOf_40 : decode cX4_hoursOf 40 = .ok (.iconst 0, 1) := by decide +kernel
theorem dX4_hoursOf_41 : decode cX4_hoursOf 41 = .ok (.ior, 1) := by decide +kernel
theorem dX4_hoursOf_42 : decode cX4_hoursOf 42 = .ok (.istore_n 2, 1) := by decide +kernel
theorem dX4_hoursOf_43 : decode cX4_hoursOf 43 = .ok (.iinc 3 1, 3) := by decide +kernel
theorem dX4_hoursOf_46 : decode cX4_hoursOf 46 = .ok (.goto (-42), 3) := by decide +kernel
theorem dX4_hoursOf_49 : decode cX4_hoursOf 49 = .ok (.iload_n 2, 1) := by decide +kernel
theorem dX4_hoursOf_50 : decode cX4_hoursOf 50 = .ok (.ireturn, 1) := by decide +kernel
theorem dX4_rule_0 : decode cX4_rule 0 = .ok (.iload_n 1, 1) := by decide +kernel
theorem dX4_rule_1 : decode cX4_rule 1 = .ok (.tableswitch 82 0 5 #[39, 44, 52, 62, 70, 77], 39) := by decide +kernel
theorem dX4_rule_40 : decode cX4_rule 40 = .ok (.aload_n 0, 1) := by decide +kernel
theorem dX4_rule_41 : decode cX4_rule 41 = .ok (.getfield 128, 3) := by decide +kernel
theorem dX4_rule_44 : decode cX4_rule 44 = .ok (.ireturn, 1) := by decide +kernel
theorem dX4_rule_45 : decode cX4_rule 45 = .ok (.aload_n 0, 1) := by decide +kernel
theorem dX4_rule_46 : decode cX4_rule 46 = .ok (.getfield 7, 3) := by decide +kernel
theorem dX4_rule_49 : decode cX4_rule 49 = .ok (.bipush 32, 2) := by decide +kernel
theorem dX4_rule_51 : decode cX4_rule 51 = .ok (.iaload, 1) := by decide +kernel
theorem dX4_rule_52 : decode cX4_rule 52 = .ok (.ireturn, 1) := by decide +kernel
theorem dX4_rule_53 : decode cX4_rule 53 = .ok (.aload_n 0, 1) := by decide +kernel
theorem dX4_rule_54 : decode cX4_rule 54 = .ok (.getfield 7, 3) := by decide +kernel
theorem dX4_rule_57 : decode cX4_rule 57 = .ok (.bipush 21, 2) := by decide +kernel
theorem dX4_rule_59 : decode cX4_rule 59 = .ok (.iaload, 1) := by decide +kernel
theorem dX4_rule_60 : decode cX4_rule 60 = .ok (.iconst 3, 1) := by decide +kernel
theorem dX4_rule_61 : decode cX4_rule 61 = .ok (.iadd, 1) := by decide +kernel
theorem dX4_rule_62 : decode cX4_rule 62 = .ok (.ireturn, 1) := by decide +kernel
theorem dX4_rule_63 : decode cX4_rule 63 = .ok (.aload_n 0, 1) := by decide +kernel
theorem dX4_rule_64 : decode cX4_rule 64 = .ok (.getfield 7, 3) := by decide +kernel
theorem dX4_rule_67 : decode cX4_rule 67 = .ok (.bipush 20, 2) := by decide +kernel
theorem dX4_rule_69 : decode cX4_rule 69 = .ok (.iaload, 1) := by decide +kernel
theorem dX4_rule_70 : decode cX4_rule 70 = .ok (.ireturn, 1) := by decide +kernel
theorem dX4_rule_71 : decode cX4_rule 71 = .ok (.aload_n 0, 1) := by decide +kernel
theorem dX4_rule_72 : decode cX4_rule 72 = .ok (.bipush (-4), 2) := by decide +kernel
theorem dX4_rule_74 : decode cX4_rule 74 = .ok (.invokevirtual 155, 3) := by decide +kernel
theorem dX4_rule_77 : decode cX4_rule 77 = .ok (.ireturn, 1) := by decide +kernel
theorem dX4_rule_78 : decode cX4_rule 78 = .ok (.aload_n 0, 1) := by decide +kernel
theorem dX4_rule_79 : decode cX4_rule 79 = .ok (.invokevirtual 158, 3) := by decide +kernel
theorem dX4_rule_82 : decode cX4_rule 82 = .ok (.ireturn, 1) := by decide +kernel
theorem dX4_rule_83 : decode cX4_rule 83 = .ok (.iconst (-1), 1) := by decide +kernel
theorem dX4_rule_84 : decode cX4_rule 84 = .ok (.ireturn, 1) := by decide +kernel
theorem dX4_man_0 : decode cX4_man 0 = .ok (.aload_n 0, 1) := by decide +kernel
theorem dX4_man_1 : decode cX4_man 1 = .ok (.iload_n 1, 1) := by decide +kernel
theorem dX4_man_2 : decode cX4_man 2 = .ok (.invokevirtual 161, 3) := by decide +kernel
theorem dX4_man_5 : decode cX4_man 5 = .ok (.ifCond .eq 15, 3) := by decide +kernel
theorem dX4_man_8 : decode cX4_man 8 = .ok (.iload_n 2, 1) := by decide +kernel
theorem dX4_man_9 : decode cX4_man 9 = .ok (.i2l, 1) := by decide +kernel
theorem dX4_man_10 : decode cX4_man 10 = .ok (.lconst 0, 1) := by decide +kernel
theorem dX4_man_11 : decode cX4_man 11 = .ok (.ldc2_w 165, 3) := by decide +kernel
theorem dX4_man_14 : decode cX4_man 14 = .ok (.invokestatic 49, 3) := by decide +kernel
theorem dX4_man_17 : decode cX4_man 17 = .ok (.ifCond .ne 5, 3) := by decide +kernel
theorem dX4_man_20 : decode cX4_man 20 = .ok (.iconst (-1), 1) := by decide +kernel
theorem dX4_man_21 : decode cX4_man 21 = .ok (.ireturn, 1) := by decide +kernel
theorem dX4_man_22 : decode cX4_man 22 = .ok (.bipush (-4), 2) := by decide +kernel
theorem dX4_man_24 : decode cX4_man 24 = .ok (.istore_n 3, 1) := by decide +kernel
theorem dX4_man_25 : decode cX4_man 25 = .ok (.iconst 0, 1) := by decide +kernel
theorem dX4_man_26 : decode cX4_man 26 = .ok (.istore 4, 2) := by decide +kernel
theorem dX4_man_28 : decode cX4_man 28 = .ok (.iload 4, 2) := by decide +kernel
theorem dX4_man_30 : decode cX4_man 30 = .ok (.bipush 48, 2) := by decide +kernel
theorem dX4_man_32 : decode cX4_man 32 = .ok (.if_icmp .ge 42, 3) := by decide +kernel
theorem dX4_man_35 : decode cX4_man 35 = .ok (.aload_n 0, 1) := by decide +kernel
theorem dX4_man_36 : decode cX4_man 36 = .ok (.iload 4, 2) := by decide +kernel
theorem dX4_man_38 : decode cX4_man 38 = .ok (.iconst 4, 1) := by decide +kernel
theorem dX4_man_39 : decode cX4_man 39 = .ok (.idiv, 1) := by decide +kernel
theorem dX4_man_40 : decode cX4_man 40 = .ok (.invokevirtual 136, 3) := by decide +kernel
theorem dX4_man_43 : decode cX4_man 43 = .ok (.iload_n 1, 1) := by decide +kernel
theorem dX4_man_44 : decode cX4_man 44 = .ok (.if_icmp .ne 22, 3) := by decide +kernel
theorem dX4_man_47 : decode cX4_man 47 = .ok (.aload_n 0, 1) := by decide +kernel
theorem dX4_man_48 : decode cX4_man 48 = .ok (.iload 4, 2) := by decide +kernel
theorem dX4_man_50 : decode cX4_man 50 = .ok (.invokevirtual 139, 3) := by decide +kernel
theorem dX4_man_53 : decode cX4_man 53 = .ok (.iload_n 3, 1) := by decide +kernel
theorem dX4_man_54 : decode cX4_man 54 = .ok (.if_icmp .le 12, 3) := by decide +kernel
theorem dX4_man_57 : decode cX4_man 57 = .ok (.aload_n 0, 1) := by decide +kernel
theorem dX4_man_58 : decode cX4_man 58 = .ok (.iload 4, 2) := by decide +kernel
theorem dX4_man_60 : decode cX4_man 60 = .ok (.invokevirtual 139, 3) := by decide +kernel
theorem dX4_man_63 : decode cX4_man 63 = .ok (.goto 4, 3) := by decide +kernel
theorem dX4_man_66 : decode cX4_man 66 = .ok (.iload_n 3, 1) := by decide +kernel
theorem dX4_man_67 : decode cX4_man 67 = .ok (.istore_n 3, 1) := by decide +kernel
theorem dX4_man_68 : decode cX4_man 68 = .ok (.iinc 4 1, 3) := by decide +kernel
theorem dX4_man_71 : decode cX4_man 71 = .ok (.goto (-43), 3) := by decide +kernel
theorem dX4_man_74 : decode cX4_man 74 = .ok (.iload_n 2, 1) := by decide +kernel
theorem dX4_man_75 : decode cX4_man 75 = .ok (.iconst 2, 1) := by decide +kernel
theorem dX4_man_76 : decode cX4_man 76 = .ok (.if_icmp .ge 16, 3) := by decide +kernel
theorem dX4_man_79 : decode cX4_man 79 = .ok (.aload_n 0, 1) := by decide +kernel
theorem dX4_man_80 : decode cX4_man 80 = .ok (.getfield 7, 3) := by decide +kernel
theorem dX4_man_83 : decode cX4_man 83 = .ok (.iconst 4, 1) := by decide +kernel
theorem dX4_man_84 : decode cX4_man 84 = .ok (.iload_n 2, 1) := by decide +kernel
theorem dX4_man_85 : decode cX4_man 85 = .ok (.imul, 1) := by decide +kernel
theorem dX4_man_86 : decode cX4_man 86 = .ok (.iload_n 1, 1) := by decide +kernel
theorem dX4_man_87 : decode cX4_man 87 = .ok (.iadd, 1) := by decide +kernel
theorem dX4_man_88 : decode cX4_man 88 = .ok (.iaload, 1) := by decide +kernel
theorem dX4_man_89 : decode cX4_man 89 = .ok (.goto 17, 3) := by decide +kernel
theorem dX4_man_92 : decode cX4_man 92 = .ok (.iload_n 2, 1) := by decide +kernel
theorem dX4_man_93 : decode cX4_man 93 = .ok (.iconst 2, 1) := by decide +kernel
theorem dX4_man_94 : decode cX4_man 94 = .ok (.if_icmp .ne 11, 3) := by decide +kernel
theorem dX4_man_97 : decode cX4_man 97 = .ok (.aload_n 0, 1) := by decide +kernel
theorem dX4_man_98 : decode cX4_man 98 = .ok (.iload_n 1, 1) := by decide +kernel
theorem dX4_man_99 : decode cX4_man 99 = .ok (.invokevirtual 155, 3) := by decide +kernel
theorem dX4_man_102 : decode cX4_man 102 = .ok (.goto 4, 3) := by decide +kernel
theorem dX4_man_105 : decode cX4_man 105 = .ok (.iload_n 3, 1) := by decide +kernel
theorem dX4_man_106 : decode cX4_man 106 = .ok (.ireturn, 1) := by decide +kernel
theorem dX4_orNone_0 : decode cX4_orNone 0 = .ok (.iload_n 0, 1) := by decide +kernel
theorem dX4_orNone_1 : decode cX4_orNone 1 = .ok (.ifCond .ge 8, 3) := by decide +kernel
theorem dX4_orNone_4 : decode cX4_orNone 4 = .ok (.bipush (-4), 2) := by decide +kernel
theorem dX4_orNone_6 : decode cX4_orNone 6 = .ok (.goto 4, 3) := by decide +kernel
theorem dX4_orNone_9 : decode cX4_orNone 9 = .ok (.iload_n 0, 1) := by decide +kernel
theorem dX4_orNone_10 : decode cX4_orNone 10 = .ok (.ireturn, 1) := by decide +kernel
theorem dX4_rota_0 : decode cX4_rota 0 = .ok (.iload_n 1, 1) := by decide +kernel
theorem dX4_rota_1 : decode cX4_rota 1 = .ok (.invokestatic 167, 3) := by decide +kernel
theorem dX4_rota_4 : decode cX4_rota 4 = .ok (.ifCond .eq 14, 3) := by decide +kernel
theorem dX4_rota_7 : decode cX4_rota 7 = .ok (.aload_n 0, 1) := by decide +kernel
theorem dX4_rota_8 : decode cX4_rota 8 = .ok (.iload_n 1, 1) := by decide +kernel
theorem dX4_rota_9 : decode cX4_rota 9 = .ok (.invokevirtual 136, 3) := by decide +kernel
theorem dX4_rota_12 : decode cX4_rota 12 = .ok (.invokestatic 170, 3) := by decide +kernel
theorem dX4_rota_15 : decode cX4_rota 15 = .ok (.goto 4, 3) := by decide +kernel
theorem dX4_rota_18 : decode cX4_rota 18 = .ok (.iconst (-1), 1) := by decide +kernel
theorem dX4_rota_19 : decode cX4_rota 19 = .ok (.ireturn, 1) := by decide +kernel
theorem dX4_deed_0 : decode cX4_deed 0 = .ok (.aload_n 0, 1) := by decide +kernel
theorem dX4_deed_1 : decode cX4_deed 1 = .ok (.iload_n 1, 1) := by decide +kernel
theorem dX4_deed_2 : decode cX4_deed 2 = .ok (.invokevirtual 173, 3) := by decide +kernel
theorem dX4_deed_5 : decode cX4_deed 5 = .ok (.ifCond .eq 15, 3) := by decide +kernel
theorem dX4_deed_8 : decode cX4_deed 8 = .ok (.iload_n 2, 1) := by decide +kernel
theorem dX4_deed_9 : decode cX4_deed 9 = .ok (.i2l, 1) := by decide +kernel
theorem dX4_deed_10 : decode cX4_deed 10 = .ok (.lconst 0, 1) := by decide +kernel
theorem dX4_deed_11 : decode cX4_deed 11 = .ok (.ldc2_w 165, 3) := by decide +kernel
theorem dX4_deed_14 : decode cX4_deed 14 = .ok (.invokestatic 49, 3) := by decide +kernel
theorem dX4_deed_17 : decode cX4_deed 17 = .ok (.ifCond .ne 5, 3) := by decide +kernel
theorem dX4_deed_20 : decode cX4_deed 20 = .ok (.iconst (-1), 1) := by decide +kernel
theorem dX4_deed_21 : decode cX4_deed 21 = .ok (.ireturn, 1) := by decide +kernel
theorem dX4_deed_22 : decode cX4_deed 22 = .ok (.aload_n 0, 1) := by decide +kernel
theorem dX4_deed_23 : decode cX4_deed 23 = .ok (.invokevirtual 149, 3) := by decide +kernel
theorem dX4_deed_26 : decode cX4_deed 26 = .ok (.iload_n 2, 1) := by decide +kernel
theorem dX4_deed_27 : decode cX4_deed 27 = .ok (.iconst 2, 1) := by decide +kernel
theorem dX4_deed_28 : decode cX4_deed 28 = .ok (.if_icmp .ge 19, 3) := by decide +kernel
theorem dX4_deed_31 : decode cX4_deed 31 = .ok (.aload_n 0, 1) := by decide +kernel
theorem dX4_deed_32 : decode cX4_deed 32 = .ok (.getfield 7, 3) := by decide +kernel
theorem dX4_deed_35 : decode cX4_deed 35 = .ok (.bipush 22, 2) := by decide +kernel
theorem dX4_deed_37 : decode cX4_deed 37 = .ok (.iconst 5, 1) := by decide +kernel
theorem dX4_deed_38 : decode cX4_deed 38 = .ok (.iload_n 2, 1) := by decide +kernel
theorem dX4_deed_39 : decode cX4_deed 39 = .ok (.imul, 1) := by decide +kernel
theorem dX4_deed_40 : decode cX4_deed 40 = .ok (.iadd, 1) := by decide +kernel
theorem dX4_deed_41 : decode cX4_deed 41 = .ok (.iload_n 1, 1) := by decide +kernel
theorem dX4_deed_42 : decode cX4_deed 42 = .ok (.iadd, 1) := by decide +kernel
theorem dX4_deed_43 : decode cX4_deed 43 = .ok (.iaload, 1) := by decide +kernel
theorem dX4_deed_44 : decode cX4_deed 44 = .ok (.goto 21, 3) := by decide +kernel
theorem dX4_deed_47 : decode cX4_deed 47 = .ok (.iload_n 2, 1) := by decide +kernel
theorem dX4_deed_48 : decode cX4_deed 48 = .ok (.iconst 2, 1) := by decide +kernel
theorem dX4_deed_49 : decode cX4_deed 49 = .ok (.if_icmp .ne 11, 3) := by decide +kernel
theorem dX4_deed_52 : decode cX4_deed 52 = .ok (.aload_n 0, 1) := by decide +kernel
theorem dX4_deed_53 : decode cX4_deed 53 = .ok (.iload_n 1, 1) := by decide +kernel
theorem dX4_deed_54 : decode cX4_deed 54 = .ok (.invokevirtual 146, 3) := by decide +kernel
theorem dX4_deed_57 : decode cX4_deed 57 = .ok (.goto 8, 3) := by decide +kernel
theorem dX4_deed_60 : decode cX4_deed 60 = .ok (.aload_n 0, 1) := by decide +kernel
theorem dX4_deed_61 : decode cX4_deed 61 = .ok (.iload_n 1, 1) := by decide +kernel
theorem dX4_deed_62 : decode cX4_deed 62 = .ok (.invokevirtual 152, 3) := by decide +kernel
theorem dX4_deed_65 : decode cX4_deed 65 = .ok (.ireturn, 1) := by decide +kernel
theorem dX4_puts_0 : decode cX4_puts 0 = .ok (.iload_n 1, 1) := by decide +kernel
theorem dX4_puts_1 : decode cX4_puts 1 = .ok (.ifCond .ne 5, 3) := by decide +kernel
theorem dX4_puts_4 : decode cX4_puts 4 = .ok (.iconst (-1), 1) := by decide +kernel
theorem dX4_puts_5 : decode cX4_puts 5 = .ok (.ireturn, 1) := by decide +kernel
theorem dX4_puts_6 : decode cX4_puts 6 = .ok (.aload_n 0, 1) := by decide +kernel
theorem dX4_puts_7 : decode cX4_puts 7 = .ok (.getfield 7, 3) := by decide +kernel
theorem dX4_puts_10 : decode cX4_puts 10 = .ok (.iload_n 2, 1) := by decide +kernel
theorem dX4_puts_11 : decode cX4_puts 11 = .ok (.iaload, 1) := by decide +kernel
theorem dX4_puts_12 : decode cX4_puts 12 = .ok (.iload 4, 2) := by decide +kernel
theorem dX4_puts_14 : decode cX4_puts 14 = .ok (.iadd, 1) := by decide +kernel
theorem dX4_puts_15 : decode cX4_puts 15 = .ok (.istore 5, 2) := by decide +kernel
theorem dX4_puts_17 : decode cX4_puts 17 = .ok (.aload_n 0, 1) := by decide +kernel
theorem dX4_puts_18 : decode cX4_puts 18 = .ok (.getfield 7, 3) := by decide +kernel
theorem dX4_puts_21 : decode cX4_puts 21 = .ok (.iload_n 2, 1) := by decide +kernel
theorem dX4_puts_22 : decode cX4_puts 22 = .ok (.iload_n 3, 1) := by decide +kernel
theorem dX4_puts_23 : decode cX4_puts 23 = .ok (.iload 4, 2) := by decide +kernel
theorem dX4_puts_25 : decode cX4_puts 25 = .ok (.isub, 1) := by decide +kernel
theorem dX4_puts_26 : decode cX4_puts 26 = .ok (.iastore, 1) := by decide +kernel
theorem dX4_puts_27 : decode cX4_puts 27 = .ok (.iload 5, 2) := by decide +kernel
theorem dX4_puts_29 : decode cX4_puts 29 = .ok (.ireturn, 1) := by decide +kernel
theorem dX4_alter_0 : decode cX4_alter 0 = .ok (.aload_n 0, 1) := by decide +kernel
theorem dX4_alter_1 : decode cX4_alter 1 = .ok (.aload_n 0, 1) := by decide +kernel
theorem dX4_alter_2 : decode cX4_alter 2 = .ok (.iload_n 1, 1) := by decide +kernel
theorem dX4_alter_3 : decode cX4_alter 3 = .ok (.invokevirtual 161, 3) := by decide +kernel
theorem dX4_alter_6 : decode cX4_alter 6 = .ok (.ifCond .eq 40, 3) := by decide +kernel
theorem dX4_alter_9 : decode cX4_alter 9 = .ok (.iload_n 2, 1) := by decide +kernel
theorem dX4_alter_10 : decode cX4_alter 10 = .ok (.ifCond .ne 15, 3) := by decide +kernel
theorem dX4_alter_13 : decode cX4_alter 13 = .ok (.iload_n 3, 1) := by decide +kernel
theorem dX4_alter_14 : decode cX4_alter 14 = .ok (.i2l, 1) := by decide +kernel
theorem dX4_alter_15 : decode cX4_alter 15 = .ok (.lconst 0, 1) := by decide +kernel
theorem dX4_alter_16 : decode cX4_alter 16 = .ok (.ldc2_w 165, 3) := by decide +kernel
theorem dX4_alter_19 : decode cX4_alter 19 = .ok (.invokestatic 49, 3) := by decide +kernel
theorem dX4_alter_22 : decode cX4_alter 22 = .ok (.ifCond .ne 20, 3) := by decide +kernel
theorem dX4_alter_25 : decode cX4_alter 25 = .ok (.iload_n 2, 1) := by decide +kernel
theorem dX4_alter_26 : decode cX4_alter 26 = .ok (.iconst 1, 1) := by decide +kernel
theorem dX4_alter_27 : decode cX4_alter 27 = .ok (.if_icmp .ne 19, 3) := by decide +kernel
theorem dX4_alter_30 : decode cX4_alter 30 = .ok (.iload_n 3, 1) := by decide +kernel
theorem dX4_alter_31 : decode cX4_alter 31 = .ok (.i2l, 1) := by decide +kernel
theorem dX4_alter_32 : decode cX4_alter 32 = .ok (.lconst 0, 1) := by decide +kernel
theorem dX4_alter_33 : decode cX4_alter 33 = .ok (.ldc2_w 176, 3) := by decide +kernel
theorem dX4_alter_36 : decode cX4_alter 36 = .ok (.invokestatic 49, 3) := by decide +kernel
theorem dX4_alter_39 : decode cX4_alter 39 = .ok (.ifCond .eq 7, 3) := by decide +kernel
theorem dX4_alter_42 : decode cX4_alter 42 = .ok (.iconst 1, 1) := by decide +kernel
theorem dX4_alter_43 : decode cX4_alter 43 = .ok (.goto 4, 3) := by decide +kernel
theorem dX4_alter_46 : decode cX4_alter 46 = .ok (.iconst 0, 1) := by decide +kernel
theorem dX4_alter_47 : decode cX4_alter 47 = .ok (.iconst 4, 1) := by decide +kernel
theorem dX4_alter_48 : decode cX4_alter 48 = .ok (.iload_n 2, 1) := by decide +kernel
theorem dX4_alter_49 : decode cX4_alter 49 = .ok (.imul, 1) := by decide +kernel
theorem dX4_alter_50 : decode cX4_alter 50 = .ok (.iload_n 1, 1) := by decide +kernel
theorem dX4_alter_51 : decode cX4_alter 51 = .ok (.iadd, 1) := by decide +kernel
theorem dX4_alter_52 : decode cX4_alter 52 = .ok (.iload_n 3, 1) := by decide +kernel
theorem dX4_alter_53 : decode cX4_alter 53 = .ok (.iconst 0, 1) := by decide +kernel
theorem dX4_alter_54 : decode cX4_alter 54 = .ok (.invokevirtual 178, 3) := by decide +kernel
theorem dX4_alter_57 : decode cX4_alter 57 = .ok (.ireturn, 1) := by decide +kernel
theorem dX4_move_0 : decode cX4_move 0 = .ok (.aload_n 0, 1) := by decide +kernel
theorem dX4_move_1 : decode cX4_move 1 = .ok (.aload_n 0, 1) := by decide +kernel
theorem dX4_move_2 : decode cX4_move 2 = .ok (.iload_n 1, 1) := by decide +kernel
theorem dX4_move_3 : decode cX4_move 3 = .ok (.invokevirtual 173, 3) := by decide +kernel
theorem dX4_move_6 : decode cX4_move 6 = .ok (.ifCond .eq 40, 3) := by decide +kernel
theorem dX4_move_9 : decode cX4_move 9 = .ok (.iload_n 2, 1) := by decide +kernel
theorem dX4_move_10 : decode cX4_move 10 = .ok (.ifCond .ne 15, 3) := by decide +kernel
theorem dX4_move_13 : decode cX4_move 13 = .ok (.iload_n 3, 1) := by decide +kernel
theorem dX4_move_14 : decode cX4_move 14 = .ok (.i2l, 1) := by decide +kernel
theorem dX4_move_15 : decode cX4_move 15 = .ok (.lconst 0, 1) := by decide +kernel
theorem dX4_move_16 : decode cX4_move 16 = .ok (.ldc2_w 182, 3) := by decide +kernel
theorem dX4_move_19 : decode cX4_move 19 = .ok (.invokestatic 49, 3) := by decide +kernel
theorem dX4_move_22 : decode cX4_move 22 = .ok (.ifCond .ne 20, 3) := by decide +kernel
theorem dX4_move_25 : decode cX4_move 25 = .ok (.iload_n 2, 1) := by decide +kernel
theorem dX4_move_26 : decode cX4_move 26 = .ok (.iconst 1, 1) := by decide +kernel
theorem dX4_move_27 : decode cX4_move 27 = .ok (.if_icmp .ne 19, 3) := by decide +kernel
theorem dX4_move_30 : decode cX4_move 30 = .ok (.iload_n 3, 1) := by decide +kernel
theorem dX4_move_31 : decode cX4_move 31 = .ok (.i2l, 1) := by decide +kernel
theorem dX4_move_32 : decode cX4_move 32 = .ok (.lconst 1, 1) := by decide +kernel
theorem dX4_move_33 : decode cX4_move 33 = .ok (.ldc2_w 184, 3) := by decide +kernel
theorem dX4_move_36 : decode cX4_move 36 = .ok (.invokestatic 49, 3) := by decide +kernel
theorem dX4_move_39 : decode cX4_move 39 = .ok (.ifCond .eq 7, 3) := by decide +kernel
theorem dX4_move_42 : decode cX4_move 42 = .ok (.iconst 1, 1) := by decide +kernel
theorem dX4_move_43 : decode cX4_move 43 = .ok (.goto 4, 3) := by decide +kernel
theorem dX4_move_46 : decode cX4_move 46 = .ok (.iconst 0, 1) := by decide +kernel
theorem dX4_move_47 : decode cX4_move 47 = .ok (.bipush 22, 2) := by decide +kernel
theorem dX4_move_49 : decode cX4_move 49 = .ok (.iconst 5, 1) := by decide +kernel
theorem dX4_move_50 : decode cX4_move 50 = .ok (.iload_n 2, 1) := by decide +kernel
theorem dX4_move_51 : decode cX4_move 51 = .ok (.imul, 1) := by decide +kernel
theorem dX4_move_52 : decode cX4_move 52 = .ok (.iadd, 1) := by decide +kernel
theorem dX4_move_53 : decode cX4_move 53 = .ok (.iload_n 1, 1) := by decide +kernel
theorem dX4_move_54 : decode cX4_move 54 = .ok (.iadd, 1) := by decide +kernel
theorem dX4_move_55 : decode cX4_move 55 = .ok (.iload_n 3, 1) := by decide +kernel
theorem dX4_move_56 : decode cX4_move 56 = .ok (.iconst 0, 1) := by decide +kernel
theorem dX4_move_57 : decode cX4_move 57 = .ok (.invokevirtual 178, 3) := by decide +kernel
theorem dX4_move_60 : decode cX4_move 60 = .ok (.ireturn, 1) := by decide +kernel
theorem dX4_shifts_0 : decode cX4_shifts 0 = .ok (.iload_n 1, 1) := by decide +kernel
theorem dX4_shifts_1 : decode cX4_shifts 1 = .ok (.invokestatic 167, 3) := by decide +kernel
theorem dX4_shifts_4 : decode cX4_shifts 4 = .ok (.ifCond .eq 17, 3) := by decide +kernel
theorem dX4_shifts_7 : decode cX4_shifts 7 = .ok (.iload_n 2, 1) := by decide +kernel
theorem dX4_shifts_8 : decode cX4_shifts 8 = .ok (.bipush (-4), 2) := by decide +kernel
theorem dX4_shifts_10 : decode cX4_shifts 10 = .ok (.if_icmp .eq 13, 3) := by decide +kernel
theorem dX4_shifts_13 : decode cX4_shifts 13 = .ok (.aload_n 0, 1) := by decide +kernel
theorem dX4_shifts_14 : decode cX4_shifts 14 = .ok (.iload_n 2, 1) := by decide +kernel
theorem dX4_shifts_15 : decode cX4_shifts 15 = .ok (.invokevirtual 161, 3) := by decide +kernel
theorem dX4_shifts_18 : decode cX4_shifts 18 = .ok (.ifCond .ne 5, 3) := by decide +kernel
theorem dX4_shifts_21 : decode cX4_shifts 21 = .ok (.iconst (-1), 1) := by decide +kernel
theorem dX4_shifts_22 : decode cX4_shifts 22 = .ok (.ireturn, 1) := by decide +kernel
theorem dX4_shifts_23 : decode cX4_shifts 23 = .ok (.aload_n 0, 1) := by decide +kernel
theorem dX4_shifts_24 : decode cX4_shifts 24 = .ok (.iload_n 1, 1) := by decide +kernel
theorem dX4_shifts_25 : decode cX4_shifts 25 = .ok (.invokevirtual 136, 3) := by decide +kernel
theorem dX4_shifts_28 : decode cX4_shifts 28 = .ok (.istore_n 3, 1) := by decide +kernel
theorem dX4_shifts_29 : decode cX4_shifts 29 = .ok (.aload_n 0, 1) := by decide +kernel
theorem dX4_shifts_30 : decode cX4_shifts 30 = .ok (.getfield 7, 3) := by decide +kernel
theorem dX4_shifts_33 : decode cX4_shifts 33 = .ok (.bipush 8, 2) := by decide +kernel
theorem dX4_shifts_35 : decode cX4_shifts 35 = .ok (.iload_n 1, 1) := by decide +kernel
theorem dX4_shifts_36 : decode cX4_shifts 36 = .ok (.iadd, 1) := by decide +kernel
theorem dX4_shifts_37 : decode cX4_shifts 37 = .ok (.iload_n 2, 1) := by decide +kernel
theorem dX4_shifts_38 : decode cX4_shifts 38 = .ok (.bipush (-4), 2) := by decide +kernel
theorem dX4_shifts_40 : decode cX4_shifts 40 = .ok (.if_icmp .ne 7, 3) := by decide +kernel
theorem dX4_shifts_43 : decode cX4_shifts 43 = .ok (.iconst 0, 1) := by decide +kernel
theorem dX4_shifts_44 : decode cX4_shifts 44 = .ok (.goto 6, 3) := by decide +kernel
theorem dX4_shifts_47 : decode cX4_shifts 47 = .ok (.iload_n 2, 1) := by decide +kernel
theorem dX4_shifts_48 : decode cX4_shifts 48 = .ok (.iconst 1, 1) := by decide +kernel
theorem dX4_shifts_49 : decode cX4_shifts 49 = .ok (.iadd, 1) := by decide +kernel
theorem dX4_shifts_50 : decode cX4_shifts 50 = .ok (.iastore, 1) := by decide +kernel
theorem dX4_shifts_51 : decode cX4_shifts 51 = .ok (.iload_n 3, 1) := by decide +kernel
theorem dX4_shifts_52 : decode cX4_shifts 52 = .ok (.invokestatic 170, 3) := by decide +kernel
theorem dX4_shifts_55 : decode cX4_shifts 55 = .ok (.ireturn, 1) := by decide +kernel
theorem dX4_shift_0 : decode cX4_shift 0 = .ok (.aload_n 0, 1) := by decide +kernel
theorem dX4_shift_1 : decode cX4_shift 1 = .ok (.iload_n 1, 1) := by decide +kernel
theorem dX4_shift_2 : decode cX4_shift 2 = .ok (.iload_n 2, 1) := by decide +kernel
theorem dX4_shift_3 : decode cX4_shift 3 = .ok (.invokevirtual 186, 3) := by decide +kernel
theorem dX4_shift_6 : decode cX4_shift 6 = .ok (.ireturn, 1) := by decide +kernel
theorem dX4_cloud_0 : decode cX4_cloud 0 = .ok (.iload_n 1, 1) := by decide +kernel
theorem dX4_cloud_1 : decode cX4_cloud 1 = .ok (.invokestatic 167, 3) := by decide +kernel
theorem dX4_cloud_4 : decode cX4_cloud 4 = .ok (.ifCond .ne 5, 3) := by decide +kernel
theorem dX4_cloud_7 : decode cX4_cloud 7 = .ok (.iconst (-1), 1) := by decide +kernel
theorem dX4_cloud_8 : decode cX4_cloud 8 = .ok (.ireturn, 1) := by decide +kernel
theorem dX4_cloud_9 : decode cX4_cloud 9 = .ok (.aload_n 0, 1) := by decide +kernel
theorem dX4_cloud_10 : decode cX4_cloud 10 = .ok (.getfield 7, 3) := by decide +kernel
theorem dX4_cloud_13 : decode cX4_cloud 13 = .ok (.bipush 20, 2) := by decide +kernel
theorem dX4_cloud_15 : decode cX4_cloud 15 = .ok (.iaload, 1) := by decide +kernel
theorem dX4_cloud_16 : decode cX4_cloud 16 = .ok (.iload_n 1, 1) := by decide +kernel
theorem dX4_cloud_17 : decode cX4_cloud 17 = .ok (.ishr, 1) := by decide +kernel
theorem dX4_cloud_18 : decode cX4_cloud 18 = .ok (.iconst 1, 1) := by decide +kernel
theorem dX4_cloud_19 : decode cX4_cloud 19 = .ok (.iand, 1) := by decide +kernel
theorem dX4_cloud_20 : decode cX4_cloud 20 = .ok (.istore_n 3, 1) := by decide +kernel
theorem dX4_cloud_21 : decode cX4_cloud 21 = .ok (.aload_n 0, 1) := by decide +kernel
theorem dX4_cloud_22 : decode cX4_cloud 22 = .ok (.getfield 7, 3) := by decide +kernel
theorem dX4_cloud_25 : decode cX4_cloud 25 = .ok (.bipush 20, 2) := by decide +kernel
theorem dX4_cloud_27 : decode cX4_cloud 27 = .ok (.aload_n 0, 1) := by decide +kernel
theorem dX4_cloud_28 : decode cX4_cloud 28 = .ok (.getfield 7, 3) := by decide +kernel
theorem dX4_cloud_31 : decode cX4_cloud 31 = .ok (.bipush 20, 2) := by decide +kernel
theorem dX4_cloud_33 : decode cX4_cloud 33 = .ok (.iaload, 1) := by decide +kernel
theorem dX4_cloud_34 : decode cX4_cloud 34 = .ok (.iconst 1, 1) := by decide +kernel
theorem dX4_cloud_35 : decode cX4_cloud 35 = .ok (.iload_n 1, 1) := by decide +kernel
theorem dX4_cloud_36 : decode cX4_cloud 36 = .ok (.ishl, 1) := by decide +kernel
theorem dX4_cloud_37 : decode cX4_cloud 37 = .ok (.iconst (-1), 1) := by decide +kernel
theorem dX4_cloud_38 : decode cX4_cloud 38 = .ok (.ixor, 1) := by decide +kernel
theorem dX4_cloud_39 : decode cX4_cloud 39 = .ok (.iand, 1) := by decide +kernel
theorem dX4_cloud_40 : decode cX4_cloud 40 = .ok (.iload_n 2, 1) := by decide +kernel
theorem dX4_cloud_41 : decode cX4_cloud 41 = .ok (.ifCond .eq 9, 3) := by decide +kernel
theorem dX4_cloud_44 : decode cX4_cloud 44 = .ok (.iconst 1, 1) := by decide +kernel
theorem dX4_cloud_45 : decode cX4_cloud 45 = .ok (.iload_n 1, 1) := by decide +kernel
theorem dX4_cloud_46 : decode cX4_cloud 46 = .ok (.ishl, 1) := by decide +kernel
theorem dX4_cloud_47 : decode cX4_cloud 47 = .ok (.goto 4, 3) := by decide +kernel
theorem dX4_cloud_50 : decode cX4_cloud 50 = .ok (.iconst 0, 1) := by decide +kernel
theorem dX4_cloud_51 : decode cX4_cloud 51 = .ok (.ior, 1) := by decide +kernel
theorem dX4_cloud_52 : decode cX4_cloud 52 = .ok (.iastore, 1) := by decide +kernel
theorem dX4_cloud_53 : decode cX4_cloud 53 = .ok (.iload_n 3, 1) := by decide +kernel
theorem dX4_cloud_54 : decode cX4_cloud 54 = .ok (.ireturn, 1) := by decide +kernel
theorem dX4_paint_0 : decode cX4_paint 0 = .ok (.aload_n 0, 1) := by decide +kernel
theorem dX4_paint_1 : decode cX4_paint 1 = .ok (.iload_n 1, 1) := by decide +kernel
theorem dX4_paint_2 : decode cX4_paint 2 = .ok (.i2l, 1) := by decide +kernel
theorem dX4_paint_3 : decode cX4_paint 3 = .ok (.lconst 0, 1) := by decide +kernel
theorem dX4_paint_4 : decode cX4_paint 4 = .ok (.ldc2_w 176, 3) := by decide +kernel
theorem dX4_paint_7 : decode cX4_paint 7 = .ok (.invokestatic 49, 3) := by decide +kernel
theorem dX4_paint_10 : decode cX4_paint 10 = .ok (.bipush 21, 2) := by decide +kernel
theorem dX4_paint_12 : decode cX4_paint 12 = .ok (.iload_n 1, 1) := by decide +kernel
theorem dX4_paint_13 : decode cX4_paint 13 = .ok (.iconst 3, 1) := by decide +kernel
theorem dX4_paint_14 : decode cX4_paint 14 = .ok (.invokevirtual 178, 3) := by decide +kernel
theorem dX4_paint_17 : decode cX4_paint 17 = .ok (.ireturn, 1) := by decide +kernel
theorem dX4_want_0 : decode cX4_want 0 = .ok (.iload_n 1, 1) := by decide +kernel
theorem dX4_want_1 : decode cX4_want 1 = .ok (.i2l, 1) := by decide +kernel
theorem dX4_want_2 : decode cX4_want 2 = .ok (.lconst 0, 1) := by decide +kernel
theorem dX4_want_3 : decode cX4_want 3 = .ok (.ldc2_w 182, 3) := by decide +kernel
theorem dX4_want_6 : decode cX4_want 6 = .ok (.invokestatic 49, 3) := by decide +kernel
theorem dX4_want_9 : decode cX4_want 9 = .ok (.ifCond .eq 15, 3) := by decide +kernel
theorem dX4_want_12 : decode cX4_want 12 = .ok (.iload_n 2, 1) := by decide +kernel
theorem dX4_want_13 : decode cX4_want 13 = .ok (.i2l, 1) := by decide +kernel
theorem dX4_want_14 : decode cX4_want 14 = .ok (.lconst 1, 1) := by decide +kernel
theorem dX4_want_15 : decode cX4_want 15 = .ok (.ldc2_w 184, 3) := by decide +kernel
theorem dX4_want_18 : decode cX4_want 18 = .ok (.invokestatic 49, 3) := by decide +kernel
theorem dX4_want_21 : decode cX4_want 21 = .ok (.ifCond .ne 5, 3) := by decide +kernel
theorem dX4_want_24 : decode cX4_want 24 = .ok (.iconst (-1), 1) := by decide +kernel
theorem dX4_want_25 : decode cX4_want 25 = .ok (.ireturn, 1) := by decide +kernel
theorem dX4_want_26 : decode cX4_want 26 = .ok (.aload_n 0, 1) := by decide +kernel
theorem dX4_want_27 : decode cX4_want 27 = .ok (.getfield 7, 3) := by decide +kernel
theorem dX4_want_30 : decode cX4_want 30 = .ok (.bipush 32, 2) := by decide +kernel
theorem dX4_want_32 : decode cX4_want 32 = .ok (.iaload, 1) := by decide +kernel
theorem dX4_want_33 : decode cX4_want 33 = .ok (.iconst 5, 1) := by decide +kernel
theorem dX4_want_34 : decode cX4_want 34 = .ok (.if_icmp .ne 6, 3) := by decide +kernel
theorem dX4_want_37 : decode cX4_want 37 = .ok (.bipush (-3), 2) := by decide +kernel
theorem dX4_want_39 : decode cX4_want 39 = .ok (.ireturn, 1) := by decide +kernel
theorem dX4_want_40 : decode cX4_want 40 = .ok (.aload_n 0, 1) := by decide +kernel
theorem dX4_want_41 : decode cX4_want 41 = .ok (.getfield 7, 3) := by decide +kernel
theorem dX4_want_44 : decode cX4_want 44 = .ok (.bipush 22, 2) := by decide +kernel
theorem dX4_want_46 : decode cX4_want 46 = .ok (.aload_n 0, 1) := by decide +kernel
theorem dX4_want_47 : decode cX4_want 47 = .ok (.getfield 7, 3) := by decide +kernel
theorem dX4_want_50 : decode cX4_want 50 = .ok (.bipush 32, 2) := by decide +kernel
theorem dX4_want_52 : decode cX4_want 52 = .ok (.iaload, 1) := by decide +kernel
theorem dX4_want_53 : decode cX4_want 53 = .ok (.iadd, 1) := by decide +kernel
theorem dX4_want_54 : decode cX4_want 54 = .ok (.iload_n 1, 1) := by decide +kernel
theorem dX4_want_55 : decode cX4_want 55 = .ok (.iastore, 1) := by decide +kernel
theorem dX4_want_56 : decode cX4_want 56 = .ok (.aload_n 0, 1) := by decide +kernel
theorem dX4_want_57 : decode cX4_want 57 = .ok (.getfield 7, 3) := by decide +kernel
theorem dX4_want_60 : decode cX4_want 60 = .ok (.bipush 27, 2) := by decide +kernel
theorem dX4_want_62 : decode cX4_want 62 = .ok (.aload_n 0, 1) := by decide +kernel
theorem dX4_want_63 : decode cX4_want 63 = .ok (.getfield 7, 3) := by decide +kernel
theorem dX4_want_66 : decode cX4_want 66 = .ok (.bipush 32, 2) := by decide +kernel
theorem dX4_want_68 : decode cX4_want 68 = .ok (.iaload, 1) := by decide +kernel
theorem dX4_want_69 : decode cX4_want 69 = .ok (.iadd, 1) := by decide +kernel
theorem dX4_want_70 : decode cX4_want 70 = .ok (.iload_n 2, 1) := by decide +kernel
theorem dX4_want_71 : decode cX4_want 71 = .ok (.iastore, 1) := by decide +kernel
theorem dX4_want_72 : decode cX4_want 72 = .ok (.aload_n 0, 1) := by decide +kernel
theorem dX4_want_73 : decode cX4_want 73 = .ok (.getfield 7, 3) := by decide +kernel
theorem dX4_want_76 : decode cX4_want 76 = .ok (.bipush 32, 2) := by decide +kernel
theorem dX4_want_78 : decode cX4_want 78 = .ok (.dup2, 1) := by decide +kernel
theorem dX4_want_79 : decode cX4_want 79 = .ok (.iaload, 1) := by decide +kernel
theorem dX4_want_80 : decode cX4_want 80 = .ok (.iconst 1, 1) := by decide +kernel
theorem dX4_want_81 : decode cX4_want 81 = .ok (.iadd, 1) := by decide +kernel
theorem dX4_want_82 : decode cX4_want 82 = .ok (.iastore, 1) := by decide +kernel
theorem dX4_want_83 : decode cX4_want 83 = .ok (.aload_n 0, 1) := by decide +kernel
theorem dX4_want_84 : decode cX4_want 84 = .ok (.getfield 7, 3) := by decide +kernel
theorem dX4_want_87 : decode cX4_want 87 = .ok (.bipush 32, 2) := by decide +kernel
theorem dX4_want_89 : decode cX4_want 89 = .ok (.iaload, 1) := by decide +kernel
theorem dX4_want_90 : decode cX4_want 90 = .ok (.ireturn, 1) := by decide +kernel
theorem dX4_drop_0 : decode cX4_drop 0 = .ok (.aload_n 0, 1) := by decide +kernel
theorem dX4_drop_1 : decode cX4_drop 1 = .ok (.iload_n 1, 1) := by decide +kernel
theorem dX4_drop_2 : decode cX4_drop 2 = .ok (.i2l, 1) := by decide +kernel
theorem dX4_drop_3 : decode cX4_drop 3 = .ok (.lconst 0, 1) := by decide +kernel
theorem dX4_drop_4 : decode cX4_drop 4 = .ok (.aload_n 0, 1) := by decide +kernel
theorem dX4_drop_5 : decode cX4_drop 5 = .ok (.getfield 7, 3) := by decide +kernel
theorem dX4_drop_8 : decode cX4_drop 8 = .ok (.bipush 32, 2) := by decide +kernel
theorem dX4_drop_10 : decode cX4_drop 10 = .ok (.iaload, 1) := by decide +kernel
theorem dX4_drop_11 : decode cX4_drop 11 = .ok (.i2l, 1) := by decide +kernel
theorem dX4_drop_12 : decode cX4_drop 12 = .ok (.invokestatic 49, 3) := by decide +kernel
theorem dX4_drop_15 : decode cX4_drop 15 = .ok (.bipush 32, 2) := by decide +kernel
theorem dX4_drop_17 : decode cX4_drop 17 = .ok (.iload_n 1, 1) := by decide +kernel
theorem dX4_drop_18 : decode cX4_drop 18 = .ok (.iconst 0, 1) := by decide +kernel
theorem dX4_drop_19 : decode cX4_drop 19 = .ok (.invokevirtual 178, 3) := by decide +kernel
theorem dX4_drop_22 : decode cX4_drop 22 = .ok (.ireturn, 1) := by decide +kernel
theorem dX4_shows_0 : decode cX4_shows 0 = .ok (.iload_n 1, 1) := by decide +kernel
theorem dX4_shows_1 : decode cX4_shows 1 = .ok (.i2l, 1) := by decide +kernel
theorem dX4_shows_2 : decode cX4_shows 2 = .ok (.lconst 0, 1) := by decide +kernel
theorem dX4_shows_3 : decode cX4_shows 3 = .ok (.ldc2_w 182, 3) := by decide +kernel
theorem dX4_shows_6 : decode cX4_shows 6 = .ok (.invokestatic 49, 3) := by decide +kernel
theorem dX4_shows_9 : decode cX4_shows 9 = .ok (.ifCond .ne 5, 3) := by decide +kernel
theorem dX4_shows_12 : decode cX4_shows 12 = .ok (.iconst (-1), 1) := by decide +kernel
theorem dX4_shows_13 : decode cX4_shows 13 = .ok (.ireturn, 1) := by decide +kernel
theorem dX4_shows_14 : decode cX4_shows 14 = .ok (.aload_n 0, 1) := by decide +kernel
theorem dX4_shows_15 : decode cX4_shows 15 = .ok (.invokevirtual 149, 3) := by decide +kernel
theorem dX4_shows_18 : decode cX4_shows 18 = .ok (.aload_n 0, 1) := by decide +kernel
theorem dX4_shows_19 : decode cX4_shows 19 = .ok (.getfield 25, 3) := by decide +kernel
theorem dX4_shows_22 : decode cX4_shows 22 = .ok (.iload_n 1, 1) := by decide +kernel
theorem dX4_shows_23 : decode cX4_shows 23 = .ok (.iaload, 1) := by decide +kernel
theorem dX4_shows_24 : decode cX4_shows 24 = .ok (.ireturn, 1) := by decide +kernel
theorem dX4_lost_0 : decode cX4_lost 0 = .ok (.iload_n 1, 1) := by decide +kernel
theorem dX4_lost_1 : decode cX4_lost 1 = .ok (.i2l, 1) := by decide +kernel
theorem dX4_lost_2 : decode cX4_lost 2 = .ok (.lconst 0, 1) := by decide +kernel
theorem dX4_lost_3 : decode cX4_lost 3 = .ok (.lconst 1, 1) := by decide +kernel
theorem dX4_lost_4 : decode cX4_lost 4 = .ok (.invokestatic 49, 3) := by decide +kernel
theorem dX4_lost_7 : decode cX4_lost 7 = .ok (.ifCond .ne 5, 3) := by decide +kernel
theorem dX4_lost_10 : decode cX4_lost 10 = .ok (.iconst (-1), 1) := by decide +kernel
theorem dX4_lost_11 : decode cX4_lost 11 = .ok (.ireturn, 1) := by decide +kernel
theorem dX4_lost_12 : decode cX4_lost 12 = .ok (.aload_n 0, 1) := by decide +kernel
theorem dX4_lost_13 : decode cX4_lost 13 = .ok (.invokevirtual 149, 3) := by decide +kernel
theorem dX4_lost_16 : decode cX4_lost 16 = .ok (.bipush (-4), 2) := by decide +kernel
theorem dX4_lost_18 : decode cX4_lost 18 = .ok (.istore_n 2, 1) := by decide +kernel
theorem dX4_lost_19 : decode cX4_lost 19 = .ok (.iconst 0, 1) := by decide +kernel
theorem dX4_lost_20 : decode cX4_lost 20 = .ok (.istore_n 3, 1) := by decide +kernel
theorem dX4_lost_21 : decode cX4_lost 21 = .ok (.bipush (-4), 2) := by decide +kernel
theorem dX4_lost_23 : decode cX4_lost 23 = .ok (.istore 4, 2) := by decide +kernel
theorem dX4_lost_25 : decode cX4_lost 25 = .ok (.iconst 0, 1) := by decide +kernel
theorem dX4_lost_26 : decode cX4_lost 26 = .ok (.istore 5, 2) := by decide +kernel
theorem dX4_lost_28 : decode cX4_lost 28 = .ok (.iload 5, 2) := by decide +kernel
theorem dX4_lost_30 : decode cX4_lost 30 = .ok (.bipush 48, 2) := by decide +kernel
theorem dX4_lost_32 : decode cX4_lost 32 = .ok (.if_icmp .ge 94, 3) := by decide +kernel
theorem dX4_lost_35 : decode cX4_lost 35 = .ok (.aload_n 0, 1) := by decide +kernel
theorem dX4_lost_36 : decode cX4_lost 36 = .ok (.getfield 25, 3) := by decide +kernel
theorem dX4_lost_39 : decode cX4_lost 39 = .ok (.iload 5, 2) := by decide +kernel
theorem dX4_lost_41 : decode cX4_lost 41 = .ok (.iaload, 1) := by decide +kernel
theorem dX4_lost_42 : decode cX4_lost 42 = .ok (.bipush (-4), 2) := by decide +kernel
theorem dX4_lost_44 : decode cX4_lost 44 = .ok (.if_icmp .eq 18, 3) := by decide +kernel
theorem dX4_lost_47 : decode cX4_lost 47 = .ok (.aload_n 0, 1) := by decide +kernel
theorem dX4_lost_48 : decode cX4_lost 48 = .ok (.getfield 25, 3) := by decide +kernel
theorem dX4_lost_51 : decode cX4_lost 51 = .ok (.iload 5, 2) := by decide +kernel
theorem dX4_lost_53 : decode cX4_lost 53 = .ok (.iaload, 1) := by decide +kernel
theorem dX4_lost_54 : decode cX4_lost 54 = .ok (.iload_n 2, 1) := by decide +kernel
theorem dX4_lost_55 : decode cX4_lost 55 = .ok (.if_icmp .ge 7, 3) := by decide +kernel
theorem dX4_lost_58 : decode cX4_lost 58 = .ok (.iconst 1, 1) := by decide +kernel
theorem dX4_lost_59 : decode cX4_lost 59 = .ok (.goto 4, 3) := by decide +kernel
theorem dX4_lost_62 : decode cX4_lost 62 = .ok (.iconst 0, 1) := by decide +kernel
theorem dX4_lost_63 : decode cX4_lost 63 = .ok (.istore 6, 2) := by decide +kernel
theorem dX4_lost_65 : decode cX4_lost 65 = .ok (.iload 6, 2) := by decide +kernel
theorem dX4_lost_67 : decode cX4_lost 67 = .ok (.ifCond .eq 12, 3) := by decide +kernel
theorem dX4_lost_70 : decode cX4_lost 70 = .ok (.iload_n 3, 1) := by decide +kernel
theorem dX4_lost_71 : decode cX4_lost 71 = .ok (.ifCond .ne 8, 3) := by decide +kernel
theorem dX4_lost_74 : decode cX4_lost 74 = .ok (.iload 5, 2) := by decide +kernel
theorem dX4_lost_76 : decode cX4_lost 76 = .ok (.goto 5, 3) := by decide +kernel
theorem dX4_lost_79 : decode cX4_lost 79 = .ok (.iload 4, 2) := by decide +kernel
theorem dX4_lost_81 : decode cX4_lost 81 = .ok (.istore 4, 2) := by decide +kernel
theorem dX4_lost_83 : decode cX4_lost 83 = .ok (.iload_n 3, 1) := by decide +kernel
theorem dX4_lost_84 : decode cX4_lost 84 = .ok (.iload 6, 2) := by decide +kernel
theorem dX4_lost_86 : decode cX4_lost 86 = .ok (.ifCond .eq 7, 3) := by decide +kernel
theorem dX4_lost_89 : decode cX4_lost 89 = .ok (.iconst 1, 1) := by decide +kernel
theorem dX4_lost_90 : decode cX4_lost 90 = .ok (.goto 4, 3) := by decide +kernel
theorem dX4_lost_93 : decode cX4_lost 93 = .ok (.iconst 0, 1) := by decide +kernel
theorem dX4_lost_94 : decode cX4_lost 94 = .ok (.iadd, 1) := by decide +kernel
theorem dX4_lost_95 : decode cX4_lost 95 = .ok (.istore_n 3, 1) := by decide +kernel
theorem dX4_lost_96 : decode cX4_lost 96 = .ok (.aload_n 0, 1) := by decide +kernel
theorem dX4_lost_97 : decode cX4_lost 97 = .ok (.getfield 25, 3) := by decide +kernel
theorem dX4_lost_100 : decode cX4_lost 100 = .ok (.iload 5, 2) := by decide +kernel
theorem dX4_lost_102 : decode cX4_lost 102 = .ok (.iaload, 1) := by decide +kernel
theorem dX4_lost_103 : decode cX4_lost 103 = .ok (.bipush (-4), 2) := by decide +kernel
theorem dX4_lost_105 : decode cX4_lost 105 = .ok (.if_icmp .ne 7, 3) := by decide +kernel
theorem dX4_lost_108 : decode cX4_lost 108 = .ok (.iload_n 2, 1) := by decide +kernel
theorem dX4_lost_109 : decode cX4_lost 109 = .ok (.goto 10, 3) := by decide +kernel
theorem dX4_lost_112 : decode cX4_lost 112 = .ok (.aload_n 0, 1) := by decide +kernel
theorem dX4_lost_113 : decode cX4_lost 113 = .ok (.getfield 25, 3) := by decide +kernel
theorem dX4_lost_116 : decode cX4_lost 116 = .ok (.iload 5, 2) := by decide +kernel
theorem dX4_lost_118 : decode cX4_lost 118 = .ok (.iaload, 1) := by decide +kernel
theorem dX4_lost_119 : decode cX4_lost 119 = .ok (.istore_n 2, 1) := by decide +kernel
theorem dX4_lost_120 : decode cX4_lost 120 = .ok (.iinc 5 1, 3) := by decide +kernel
theorem dX4_lost_123 : decode cX4_lost 123 = .ok (.goto (-95), 3) := by decide +kernel
theorem dX4_lost_126 : decode cX4_lost 126 = .ok (.iload_n 1, 1) := by decide +kernel
theorem dX4_lost_127 : decode cX4_lost 127 = .ok (.ifCond .ne 7, 3) := by decide +kernel
theorem dX4_lost_130 : decode cX4_lost 130 = .ok (.iload_n 3, 1) := by decide +kernel
theorem dX4_lost_131 : decode cX4_lost 131 = .ok (.goto 5, 3) := by decide +kernel
theorem dX4_lost_134 : decode cX4_lost 134 = .ok (.iload 4, 2) := by decide +kernel
theorem dX4_lost_136 : decode cX4_lost 136 = .ok (.ireturn, 1) := by decide +kernel
theorem dX4_worst_0 : decode cX4_worst 0 = .ok (.iload_n 1, 1) := by decide +kernel
theorem dX4_worst_1 : decode cX4_worst 1 = .ok (.i2l, 1) := by decide +kernel
theorem dX4_worst_2 : decode cX4_worst 2 = .ok (.lconst 0, 1) := by decide +kernel
theorem dX4_worst_3 : decode cX4_worst 3 = .ok (.lconst 1, 1) := by decide +kernel
theorem dX4_worst_4 : decode cX4_worst 4 = .ok (.invokestatic 49, 3) := by decide +kernel
theorem dX4_worst_7 : decode cX4_worst 7 = .ok (.ifCond .ne 5, 3) := by decide +kernel
theorem dX4_worst_10 : decode cX4_worst 10 = .ok (.iconst (-1), 1) := by decide +kernel
theorem dX4_worst_11 : decode cX4_worst 11 = .ok (.ireturn, 1) := by decide +kernel
theorem dX4_worst_12 : decode cX4_worst 12 = .ok (.aload_n 0, 1) := by decide +kernel
theorem dX4_worst_13 : decode cX4_worst 13 = .ok (.invokevirtual 149, 3) := by decide +kernel
theorem dX4_worst_16 : decode cX4_worst 16 = .ok (.bipush (-4), 2) := by decide +kernel
theorem dX4_worst_18 : decode cX4_worst 18 = .ok (.istore_n 2, 1) := by decide +kernel
theorem dX4_worst_19 : decode cX4_worst 19 = .ok (.bipush (-4), 2) := by decide +kernel
theorem dX4_worst_21 : decode cX4_worst 21 = .ok (.istore_n 3, 1) := by decide +kernel
theorem dX4_worst_22 : decode cX4_worst 22 = .ok (.iconst 0, 1) := by decide +kernel
theorem dX4_worst_23 : decode cX4_worst 23 = .ok (.istore 4, 2) := by decide +kernel
theorem dX4_worst_25 : decode cX4_worst 25 = .ok (.iload 4, 2) := by decide +kernel
theorem dX4_worst_27 : decode cX4_worst 27 = .ok (.bipush 48, 2) := by decide +kernel
theorem dX4_worst_29 : decode cX4_worst 29 = .ok (.if_icmp .ge 89, 3) := by decide +kernel
theorem dX4_worst_32 : decode cX4_worst 32 = .ok (.aload_n 0, 1) := by decide +kernel
theorem dX4_worst_33 : decode cX4_worst 33 = .ok (.getfield 25, 3) := by decide +kernel
theorem dX4_worst_36 : decode cX4_worst 36 = .ok (.iload 4, 2) := by decide +kernel
theorem dX4_worst_38 : decode cX4_worst 38 = .ok (.iaload, 1) := by decide +kernel
theorem dX4_worst_39 : decode cX4_worst 39 = .ok (.bipush (-4), 2) := by decide +kernel
theorem dX4_worst_41 : decode cX4_worst 41 = .ok (.if_icmp .ne 8, 3) := by decide +kernel
theorem dX4_worst_44 : decode cX4_worst 44 = .ok (.bipush (-4), 2) := by decide +kernel
theorem dX4_worst_46 : decode cX4_worst 46 = .ok (.goto 38, 3) := by decide +kernel
theorem dX4_worst_49 : decode cX4_worst 49 = .ok (.aload_n 0, 1) := by decide +kernel
theorem dX4_worst_50 : decode cX4_worst 50 = .ok (.getfield 25, 3) := by decide +kernel
theorem dX4_worst_53 : decode cX4_worst 53 = .ok (.iload 4, 2) := by decide +kernel
theorem dX4_worst_55 : decode cX4_worst 55 = .ok (.iaload, 1) := by decide +kernel
theorem dX4_worst_56 : decode cX4_worst 56 = .ok (.iload 4, 2) := by decide +kernel
theorem dX4_worst_58 : decode cX4_worst 58 = .ok (.if_icmp .le 16, 3) := by decide +kernel
theorem dX4_worst_61 : decode cX4_worst 61 = .ok (.aload_n 0, 1) := by decide +kernel
theorem dX4_worst_62 : decode cX4_worst 62 = .ok (.getfield 25, 3) := by decide +kernel
theorem dX4_worst_65 : decode cX4_worst 65 = .ok (.iload 4, 2) := by decide +kernel
theorem dX4_worst_67 : decode cX4_worst 67 = .ok (.iaload, 1) := by decide +kernel
theorem dX4_worst_68 : decode cX4_worst 68 = .ok (.iload 4, 2) := by decide +kernel
theorem dX4_worst_70 : decode cX4_worst 70 = .ok (.isub, 1) := by decide +kernel
theorem dX4_worst_71 : decode cX4_worst 71 = .ok (.goto 13, 3) := by decide +kernel
theorem dX4_worst_74 : decode cX4_worst 74 = .ok (.iload 4, 2) := by decide +kernel
theorem dX4_worst_76 : decode cX4_worst 76 = .ok (.aload_n 0, 1) := by decide +kernel
theorem dX4_worst_77 : decode cX4_worst 77 = .ok (.getfield 25, 3) := by decide +kernel
theorem dX4_worst_80 : decode cX4_worst 80 = .ok (.iload 4, 2) := by decide +kernel
theorem dX4_worst_82 : decode cX4_worst 82 = .ok (.iaload, 1) := by decide +kernel
theorem dX4_worst_83 : decode cX4_worst 83 = .ok (.isub, 1) := by decide +kernel
theorem dX4_worst_84 : decode cX4_worst 84 = .ok (.istore 5, 2) := by decide +kernel
theorem dX4_worst_86 : decode cX4_worst 86 = .ok (.iload 5, 2) := by decide +kernel
theorem dX4_worst_88 : decode cX4_worst 88 = .ok (.iload_n 2, 1) := by decide +kernel
theorem dX4_worst_89 : decode cX4_worst 89 = .ok (.if_icmp .le 8, 3) := by decide +kernel
theorem dX4_worst_92 : decode cX4_worst 92 = .ok (.iload 4, 2) := by decide +kernel
theorem dX4_worst_94 : decode cX4_worst 94 = .ok (.goto 4, 3) := by decide +kernel
theorem dX4_worst_97 : decode cX4_worst 97 = .ok (.iload_n 3, 1) := by decide +kernel
theorem dX4_worst_98 : decode cX4_worst 98 = .ok (.istore_n 3, 1) := by decide +kernel
theorem dX4_worst_99 : decode cX4_worst 99 = .ok (.iload 5, 2) := by decide +kernel
theorem dX4_worst_101 : decode cX4_worst 101 = .ok (.iload_n 2, 1) := by decide +kernel
theorem dX4_worst_102 : decode cX4_worst 102 = .ok (.if_icmp .le 8, 3) := by decide +kernel
theorem dX4_worst_105 : decode cX4_worst 105 = .ok (.iload 5, 2) := by decide +kernel
theorem dX4_worst_107 : decode cX4_worst 107 = .ok (.goto 4, 3) := by decide +kernel
theorem dX4_worst_110 : decode cX4_worst 110 = .ok (.iload_n 2, 1) := by decide +kernel
theorem dX4_worst_111 : decode cX4_worst 111 = .ok (.istore_n 2, 1) := by decide +kernel
theorem dX4_worst_112 : decode cX4_worst 112 = .ok (.iinc 4 1, 3) := by decide +kernel
theorem dX4_worst_115 : decode cX4_worst 115 = .ok (.goto (-90), 3) := by decide +kernel
theorem dX4_worst_118 : decode cX4_worst 118 = .ok (.iload_n 1, 1) := by decide +kernel
theorem dX4_worst_119 : decode cX4_worst 119 = .ok (.ifCond .ne 7, 3) := by decide +kernel
theorem dX4_worst_122 : decode cX4_worst 122 = .ok (.iload_n 2, 1) := by decide +kernel
theorem dX4_worst_123 : decode cX4_worst 123 = .ok (.goto 4, 3) := by decide +kernel
theorem dX4_worst_126 : decode cX4_worst 126 = .ok (.iload_n 3, 1) := by decide +kernel
theorem dX4_worst_127 : decode cX4_worst 127 = .ok (.ireturn, 1) := by decide +kernel
theorem dX4_done_0 : decode cX4_done 0 = .ok (.iload_n 1, 1) := by decide +kernel
theorem dX4_done_1 : decode cX4_done 1 = .ok (.i2l, 1) := by decide +kernel
theorem dX4_done_2 : decode cX4_done 2 = .ok (.lconst 0, 1) := by decide +kernel
theorem dX4_done_3 : decode cX4_done 3 = .ok (.ldc2_w 165, 3) := by decide +kernel
theorem dX4_done_6 : decode cX4_done 6 = .ok (.invokestatic 49, 3) := by decide +kernel
theorem dX4_done_9 : decode cX4_done 9 = .ok (.ifCond .ne 5, 3) := by decide +kernel
theorem dX4_done_12 : decode cX4_done 12 = .ok (.iconst (-1), 1) := by decide +kernel
theorem dX4_done_13 : decode cX4_done 13 = .ok (.ireturn, 1) := by decide +kernel
theorem dX4_done_14 : decode cX4_done 14 = .ok (.aload_n 0, 1) := by decide +kernel
theorem dX4_done_15 : decode cX4_done 15 = .ok (.invokevirtual 149, 3) := by decide +kernel
theorem dX4_done_18 : decode cX4_done 18 = .ok (.iconst 0, 1) := by decide +kernel
theorem dX4_done_19 : decode cX4_done 19 = .ok (.istore_n 2, 1) := by decide +kernel
theorem dX4_done_20 : decode cX4_done 20 = .ok (.iconst 0, 1) := by decide +kernel
theorem dX4_done_21 : decode cX4_done 21 = .ok (.istore_n 3, 1) := by decide +kernel
theorem dX4_done_22 : decode cX4_done 22 = .ok (.iload_n 3, 1) := by decide +kernel
theorem dX4_done_23 : decode cX4_done 23 = .ok (.aload_n 0, 1) := by decide +kernel
theorem dX4_done_24 : decode cX4_done 24 = .ok (.getfield 7, 3) := by decide +kernel
theorem dX4_done_27 : decode cX4_done 27 = .ok (.bipush 32, 2) := by decide +kernel
theorem dX4_done_29 : decode cX4_done 29 = .ok (.iaload, 1) := by decide +kernel
theorem dX4_done_30 : decode cX4_done 30 = .ok (.if_icmp .ge 79, 3) := by decide +kernel
theorem dX4_done_33 : decode cX4_done 33 = .ok (.aload_n 0, 1) := by decide +kernel
theorem dX4_done_34 : decode cX4_done 34 = .ok (.iload_n 3, 1) := by decide +kernel
theorem dX4_done_35 : decode cX4_done 35 = .ok (.invokevirtual 146, 3) := by decide +kernel
theorem dX4_done_38 : decode cX4_done 38 = .ok (.istore 4, 2) := by decide +kernel
theorem dX4_done_40 : decode cX4_done 40 = .ok (.aload_n 0, 1) := by decide +kernel
theorem dX4_done_41 : decode cX4_done 41 = .ok (.getfield 7, 3) := by decide +kernel
theorem dX4_done_44 : decode cX4_done 44 = .ok (.bipush 22, 2) := by decide +kernel
theorem dX4_done_46 : decode cX4_done 46 = .ok (.iload_n 3, 1) := by decide +kernel
theorem dX4_done_47 : decode cX4_done 47 = .ok (.iadd, 1) := by decide +kernel
theorem dX4_done_48 : decode cX4_done 48 = .ok (.iaload, 1) := by decide +kernel
theorem dX4_done_49 : decode cX4_done 49 = .ok (.istore 5, 2) := by decide +kernel
theorem dX4_done_51 : decode cX4_done 51 = .ok (.iload 4, 2) := by decide +kernel
theorem dX4_done_53 : decode cX4_done 53 = .ok (.bipush (-4), 2) := by decide +kernel
theorem dX4_done_55 : decode cX4_done 55 = .ok (.if_icmp .ne 7, 3) := by decide +kernel
theorem dX4_done_58 : decode cX4_done 58 = .ok (.iconst 3, 1) := by decide +kernel
theorem dX4_done_59 : decode cX4_done 59 = .ok (.goto 26, 3) := by decide +kernel
theorem dX4_done_62 : decode cX4_done 62 = .ok (.iload 4, 2) := by decide +kernel
theorem dX4_done_64 : decode cX4_done 64 = .ok (.iload 5, 2) := by decide +kernel
theorem dX4_done_66 : decode cX4_done 66 = .ok (.if_icmp .ge 7, 3) := by decide +kernel
theorem dX4_done_69 : decode cX4_done 69 = .ok (.iconst 0, 1) := by decide +kernel
theorem dX4_done_70 : decode cX4_done 70 = .ok (.goto 15, 3) := by decide +kernel
theorem dX4_done_73 : decode cX4_done 73 = .ok (.iload 4, 2) := by decide +kernel
theorem dX4_done_75 : decode cX4_done 75 = .ok (.iload 5, 2) := by decide +kernel
theorem dX4_done_77 : decode cX4_done 77 = .ok (.if_icmp .ne 7, 3) := by decide +kernel
theorem dX4_done_80 : decode cX4_done 80 = .ok (.iconst 1, 1) := by decide +kernel
theorem dX4_done_81 : decode cX4_done 81 = .ok (.goto 4, 3) := by decide +kernel
theorem dX4_done_84 : decode cX4_done 84 = .ok (.iconst 2, 1) := by decide +kernel
theorem dX4_done_85 : decode cX4_done 85 = .ok (.istore 6, 2) := by decide +kernel
theorem dX4_done_87 : decode cX4_done 87 = .ok (.iload_n 2, 1) := by decide +kernel
theorem dX4_done_88 : decode cX4_done 88 = .ok (.iload 6, 2) := by decide +kernel
theorem dX4_done_90 : decode cX4_done 90 = .ok (.iload_n 1, 1) := by decide +kernel
theorem dX4_done_91 : decode cX4_done 91 = .ok (.if_icmp .ne 9, 3) := by decide +kernel
theorem dX4_done_94 : decode cX4_done 94 = .ok (.iconst 1, 1) := by decide +kernel
theorem dX4_done_95 : decode cX4_done 95 = .ok (.iload_n 3, 1) := by decide +kernel
theorem dX4_done_96 : decode cX4_done 96 = .ok (.ishl, 1) := by decide +kernel
theorem dX4_done_97 : decode cX4_done 97 = .ok (.goto 4, 3) := by decide +kernel
theorem dX4_done_100 : decode cX4_done 100 = .ok (.iconst 0, 1) := by decide +kernel
theorem dX4_done_101 : decode cX4_done 101 = .ok (.ior, 1) := by decide +kernel
theorem dX4_done_102 : decode cX4_done 102 = .ok (.istore_n 2, 1) := by decide +kernel
theorem dX4_done_103 : decode cX4_done 103 = .ok (.iinc 3 1, 3) := by decide +kernel
theorem dX4_done_106 : decode cX4_done 106 = .ok (.goto (-84), 3) := by decide +kernel
theorem dX4_done_109 : decode cX4_done 109 = .ok (.iload_n 2, 1) := by decide +kernel
theorem dX4_done_110 : decode cX4_done 110 = .ok (.ireturn, 1) := by decide +kernel
theorem dX4_lean_0 : decode cX4_lean 0 = .ok (.aload_n 0, 1) := by decide +kernel
theorem dX4_lean_1 : decode cX4_lean 1 = .ok (.iload_n 1, 1) := by decide +kernel
theorem dX4_lean_2 : decode cX4_lean 2 = .ok (.invokevirtual 161, 3) := by decide +kernel
theorem dX4_lean_5 : decode cX4_lean 5 = .ok (.ifCond .eq 23, 3) := by decide +kernel
theorem dX4_lean_8 : decode cX4_lean 8 = .ok (.aload_n 0, 1) := by decide +kernel
theorem dX4_lean_9 : decode cX4_lean 9 = .ok (.iload_n 2, 1) := by decide +kernel
theorem dX4_lean_10 : decode cX4_lean 10 = .ok (.invokevirtual 173, 3) := by decide +kernel
theorem dX4_lean_13 : decode cX4_lean 13 = .ok (.ifCond .eq 15, 3) := by decide +kernel
theorem dX4_lean_16 : decode cX4_lean 16 = .ok (.iload_n 3, 1) := by decide +kernel
theorem dX4_lean_17 : decode cX4_lean 17 = .ok (.i2l, 1) := by decide +kernel
theorem dX4_lean_18 : decode cX4_lean 18 = .ok (.lconst 0, 1) := by decide +kernel
theorem dX4_lean_19 : decode cX4_lean 19 = .ok (.ldc2_w 182, 3) := by decide +kernel
theorem dX4_lean_22 : decode cX4_lean 22 = .ok (.invokestatic 49, 3) := by decide +kernel
theorem dX4_lean_25 : decode cX4_lean 25 = .ok (.ifCond .ne 5, 3) := by decide +kernel
theorem dX4_lean_28 : decode cX4_lean 28 = .ok (.iconst (-1), 1) := by decide +kernel
theorem dX4_lean_29 : decode cX4_lean 29 = .ok (.ireturn, 1) := by decide +kernel
theorem dX4_lean_30 : decode cX4_lean 30 = .ok (.aload_n 0, 1) := by decide +kernel
theorem dX4_lean_31 : decode cX4_lean 31 = .ok (.getfield 7, 3) := by decide +kernel
theorem dX4_lean_34 : decode cX4_lean 34 = .ok (.iconst 4, 1) := by decide +kernel
theorem dX4_lean_35 : decode cX4_lean 35 = .ok (.iload_n 1, 1) := by decide +kernel
theorem dX4_lean_36 : decode cX4_lean 36 = .ok (.iadd, 1) := by decide +kernel
theorem dX4_lean_37 : decode cX4_lean 37 = .ok (.iaload, 1) := by decide +kernel
theorem dX4_lean_38 : decode cX4_lean 38 = .ok (.istore 4, 2) := by decide +kernel
theorem dX4_lean_40 : decode cX4_lean 40 = .ok (.bipush (-4), 2) := by decide +kernel
theorem dX4_lean_42 : decode cX4_lean 42 = .ok (.istore 5, 2) := by decide +kernel
theorem dX4_lean_44 : decode cX4_lean 44 = .ok (.iconst 0, 1) := by decide +kernel
theorem dX4_lean_45 : decode cX4_lean 45 = .ok (.istore 6, 2) := by decide +kernel
theorem dX4_lean_47 : decode cX4_lean 47 = .ok (.iload 6, 2) := by decide +kernel
theorem dX4_lean_49 : decode cX4_lean 49 = .ok (.bipush 6, 2) := by decide +kernel
theorem dX4_lean_51 : decode cX4_lean 51 = .ok (.if_icmp .gt 109, 3) := by decide +kernel
theorem dX4_lean_54 : decode cX4_lean 54 = .ok (.aload_n 0, 1) := by decide +kernel
theorem dX4_lean_55 : decode cX4_lean 55 = .ok (.getfield 7, 3) := by decide +kernel
theorem dX4_lean_58 : decode cX4_lean 58 = .ok (.iconst 4, 1) := by decide +kernel
theorem dX4_lean_59 : decode cX4_lean 59 = .ok (.iload_n 1, 1) := by decide +kernel
theorem dX4_lean_60 : decode cX4_lean 60 = .ok (.iadd, 1) := by decide +kernel
theorem dX4_lean_61 : decode cX4_lean 61 = .ok (.iload 6, 2) := by decide +kernel
theorem dX4_lean_63 : decode cX4_lean 63 = .ok (.iastore, 1) := by decide +kernel
theorem dX4_lean_64 : decode cX4_lean 64 = .ok (.aload_n 0, 1) := by decide +kernel
theorem dX4_lean_65 : decode cX4_lean 65 = .ok (.invokevirtual 149, 3) := by decide +kernel
theorem dX4_lean_68 : decode cX4_lean 68 = .ok (.aload_n 0, 1) := by decide +kernel
theorem dX4_lean_69 : decode cX4_lean 69 = .ok (.iload_n 2, 1) := by decide +kernel
theorem dX4_lean_70 : decode cX4_lean 70 = .ok (.invokevirtual 146, 3) := by decide +kernel
theorem dX4_lean_73 : decode cX4_lean 73 = .ok (.istore 7, 2) := by decide +kernel
theorem dX4_lean_75 : decode cX4_lean 75 = .ok (.iload 6, 2) := by decide +kernel
theorem dX4_lean_77 : decode cX4_lean 77 = .ok (.iconst 3, 1) := by decide +kernel
theorem dX4_lean_78 : decode cX4_lean 78 = .ok (.if_icmp .le 10, 3) := by decide +kernel
theorem dX4_lean_81 : decode cX4_lean 81 = .ok (.iload 6, 2) := by decide +kernel
theorem dX4_lean_83 : decode cX4_lean 83 = .ok (.iconst 3, 1) := by decide +kernel
theorem dX4_lean_84 : decode cX4_lean 84 = .ok (.isub, 1) := by decide +kernel
theorem dX4_lean_85 : decode cX4_lean 85 = .ok (.goto 7, 3) := by decide +kernel
theorem dX4_lean_88 : decode cX4_lean 88 = .ok (.iconst 3, 1) := by decide +kernel
theorem dX4_lean_89 : decode cX4_lean 89 = .ok (.iload 6, 2) := by decide +kernel
theorem dX4_lean_91 : decode cX4_lean 91 = .ok (.isub, 1) := by decide +kernel
theorem dX4_lean_92 : decode cX4_lean 92 = .ok (.istore 8, 2) := by decide +kernel
theorem dX4_lean_94 : decode cX4_lean 94 = .ok (.iload 5, 2) := by decide +kernel
theorem dX4_lean_96 : decode cX4_lean 96 = .ok (.bipush (-4), 2) := by decide +kernel
theorem dX4_lean_98 : decode cX4_lean 98 = .ok (.if_icmp .ne 8, 3) := by decide +kernel
theorem dX4_lean_101 : decode cX4_lean 101 = .ok (.bipush 48, 2) := by decide +kernel
theorem dX4_lean_103 : decode cX4_lean 103 = .ok (.goto 20, 3) := by decide +kernel
theorem dX4_lean_106 : decode cX4_lean 106 = .ok (.iload 5, 2) := by decide +kernel
theorem dX4_lean_108 : decode cX4_lean 108 = .ok (.iconst 3, 1) := by decide +kernel
theorem dX4_lean_109 : decode cX4_lean 109 = .ok (.if_icmp .le 10, 3) := by decide +kernel
theorem dX4_lean_112 : decode cX4_lean 112 = .ok (.iload 5, 2) := by decide +kernel
theorem dX4_lean_114 : decode cX4_lean 114 = .ok (.iconst 3, 1) := by decide +kernel
theorem dX4_lean_115 : decode cX4_lean 115 = .ok (.isub, 1) := by decide +kernel
theorem dX4_lean_116 : decode cX4_lean 116 = .ok (.goto 7, 3) := by decide +kernel
theorem dX4_lean_119 : decode cX4_lean 119 = .ok (.iconst 3, 1) := by decide +kernel
theorem dX4_lean_120 : decode cX4_lean 120 = .ok (.iload 5, 2) := by decide +kernel
theorem dX4_lean_122 : decode cX4_lean 122 = .ok (.isub, 1) := by decide +kernel
theorem dX4_lean_123 : decode cX4_lean 123 = .ok (.istore 9, 2) := by decide +kernel
theorem dX4_lean_125 : decode cX4_lean 125 = .ok (.iload 7, 2) := by decide +kernel
theorem dX4_lean_127 : decode cX4_lean 127 = .ok (.bipush (-4), 2) := by decide +kernel
theorem dX4_lean_129 : decode cX4_lean 129 = .ok (.if_icmp .eq 21, 3) := by decide +kernel
theorem dX4_lean_132 : decode cX4_lean 132 = .ok (.iload 7, 2) := by decide +kernel
theorem dX4_lean_134 : decode cX4_lean 134 = .ok (.iload_n 3, 1) := by decide +kernel
theorem dX4_lean_135 : decode cX4_lean 135 = .ok (.if_icmp .gt 15, 3) := by decide +kernel
theorem dX4_lean_138 : decode cX4_lean 138 = .ok (.iload 8, 2) := by decide +kernel
theorem dX4_lean_140 : decode cX4_lean 140 = .ok (.iload 9, 2) := by decide +kernel
theorem dX4_lean_142 : decode cX4_lean 142 = .ok (.if_icmp .ge 8, 3) := by decide +kernel
theorem dX4_lean_145 : decode cX4_lean 145 = .ok (.iload 6, 2) := by decide +kernel
theorem dX4_lean_147 : decode cX4_lean 147 = .ok (.goto 5, 3) := by decide +kernel
theorem dX4_lean_150 : decode cX4_lean 150 = .ok (.iload 5, 2) := by decide +kernel
theorem dX4_lean_152 : decode cX4_lean 152 = .ok (.istore 5, 2) := by decide +kernel
theorem dX4_lean_154 : decode cX4_lean 154 = .ok (.iinc 6 1, 3) := by decide +kernel
theorem dX4_lean_157 : decode cX4_lean 157 = .ok (.goto (-110), 3) := by decide +kernel
theorem dX4_lean_160 : decode cX4_lean 160 = .ok (.aload_n 0, 1) := by decide +kernel
theorem dX4_lean_161 : decode cX4_lean 161 = .ok (.getfield 7, 3) := by decide +kernel
theorem dX4_lean_164 : decode cX4_lean 164 = .ok (.iconst 4, 1) := by decide +kernel
theorem dX4_lean_165 : decode cX4_lean 165 = .ok (.iload_n 1, 1) := by decide +kernel
theorem dX4_lean_166 : decode cX4_lean 166 = .ok (.iadd, 1) := by decide +kernel
theorem dX4_lean_167 : decode cX4_lean 167 = .ok (.iload 4, 2) := by decide +kernel
theorem dX4_lean_169 : decode cX4_lean 169 = .ok (.iastore, 1) := by decide +kernel
theorem dX4_lean_170 : decode cX4_lean 170 = .ok (.iload 5, 2) := by decide +kernel
theorem dX4_lean_172 : decode cX4_lean 172 = .ok (.ireturn, 1) := by decide +kernel
theorem dX4_isLess_0 : decode cX4_isLess 0 = .ok (.iload_n 1, 1) := by decide +kernel
theorem dX4_isLess_1 : decode cX4_isLess 1 = .ok (.aload_n 0, 1) := by decide +kernel
theorem dX4_isLess_2 : decode cX4_isLess 2 = .ok (.getfield 189, 3) := by decide +kernel
theorem dX4_isLess_5 : decode cX4_isLess 5 = .ok (.if_icmp .ge 7, 3) := by decide +kernel
theorem dX4_isLess_8 : decode cX4_isLess 8 = .ok (.iconst 1, 1) := by decide +kernel
theorem dX4_isLess_9 : decode cX4_isLess 9 = .ok (.goto 4, 3) := by decide +kernel
theorem dX4_isLess_12 : decode cX4_isLess 12 = .ok (.iconst 0, 1) := by decide +kernel
theorem dX4_isLess_13 : decode cX4_isLess 13 = .ok (.istore_n 2, 1) := by decide +kernel
theorem dX4_isLess_14 : decode cX4_isLess 14 = .ok (.aload_n 0, 1) := by decide +kernel
theorem dX4_isLess_15 : decode cX4_isLess 15 = .ok (.iload_n 2, 1) := by decide +kernel
theorem dX4_isLess_16 : decode cX4_isLess 16 = .ok (.ifCond .eq 7, 3) := by decide +kernel
theorem dX4_isLess_19 : decode cX4_isLess 19 = .ok (.iload_n 1, 1) := by decide +kernel
theorem dX4_isLess_20 : decode cX4_isLess 20 = .ok (.goto 7, 3) := by decide +kernel
theorem dX4_isLess_23 : decode cX4_isLess 23 = .ok (.aload_n 0, 1) := by decide +kernel
theorem dX4_isLess_24 : decode cX4_isLess 24 = .ok (.getfield 189, 3) := by decide +kernel
theorem dX4_isLess_27 : decode cX4_isLess 27 = .ok (.putfield 189, 3) := by decide +kernel
theorem dX4_isLess_30 : decode cX4_isLess 30 = .ok (.iload_n 2, 1) := by decide +kernel
theorem dX4_isLess_31 : decode cX4_isLess 31 = .ok (.ireturn, 1) := by decide +kernel
theorem dX4_mark_0 : decode cX4_mark 0 = .ok (.iload_n 1, 1) := by decide +kernel
theorem dX4_mark_1 : decode cX4_mark 1 = .ok (.i2l, 1) := by decide +kernel
theorem dX4_mark_2 : decode cX4_mark 2 = .ok (.lconst 0, 1) := by decide +kernel
theorem dX4_mark_3 : decode cX4_mark 3 = .ok (.lconst 1, 1) := by decide +kernel
theorem dX4_mark_4 : decode cX4_mark 4 = .ok (.invokestatic 49, 3) := by decide +kernel
theorem dX4_mark_7 : decode cX4_mark 7 = .ok (.ifCond .ne 5, 3) := by decide +kernel
theorem dX4_mark_10 : decode cX4_mark 10 = .ok (.iconst (-1), 1) := by decide +kernel
theorem dX4_mark_11 : decode cX4_mark 11 = .ok (.ireturn, 1) := by decide +kernel
theorem dX4_mark_12 : decode cX4_mark 12 = .ok (.aload_n 0, 1) := by decide +kernel
theorem dX4_mark_13 : decode cX4_mark 13 = .ok (.getfield 7, 3) := by decide +kernel
theorem dX4_mark_16 : decode cX4_mark 16 = .ok (.bipush 21, 2) := by decide +kernel
theorem dX4_mark_18 : decode cX4_mark 18 = .ok (.iaload, 1) := by decide +kernel
theorem dX4_mark_19 : decode cX4_mark 19 = .ok (.istore_n 2, 1) := by decide +kernel
theorem dX4_mark_20 : decode cX4_mark 20 = .ok (.iconst 0, 1) := by decide +kernel
theorem dX4_mark_21 : decode cX4_mark 21 = .ok (.istore_n 3, 1) := by decide +kernel
theorem dX4_mark_22 : decode cX4_mark 22 = .ok (.aload_n 0, 1) := by decide +kernel
theorem dX4_mark_23 : decode cX4_mark 23 = .ok (.ldc 192, 2) := by decide +kernel
theorem dX4_mark_25 : decode cX4_mark 25 = .ok (.putfield 189, 3) := by decide +kernel
theorem dX4_mark_28 : decode cX4_mark 28 = .ok (.iconst 0, 1) := by decide +kernel
theorem dX4_mark_29 : decode cX4_mark 29 = .ok (.istore 4, 2) := by decide +kernel
theorem dX4_mark_31 : decode cX4_mark 31 = .ok (.iload 4, 2) := by decide +kernel
theorem dX4_mark_33 : decode cX4_mark 33 = .ok (.bipush 6, 2) := by decide +kernel
theorem dX4_mark_35 : decode cX4_mark 35 = .ok (.if_icmp .gt 38, 3) := by decide +kernel
theorem dX4_mark_38 : decode cX4_mark 38 = .ok (.aload_n 0, 1) := by decide +kernel
theorem dX4_mark_39 : decode cX4_mark 39 = .ok (.getfield 7, 3) := by decide +kernel
theorem dX4_mark_42 : decode cX4_mark 42 = .ok (.bipush 21, 2) := by decide +kernel
theorem dX4_mark_44 : decode cX4_mark 44 = .ok (.iload 4, 2) := by decide +kernel
theorem dX4_mark_46 : decode cX4_mark 46 = .ok (.iconst 3, 1) := by decide +kernel
theorem dX4_mark_47 : decode cX4_mark 47 = .ok (.isub, 1) := by decide +kernel
theorem dX4_mark_48 : decode cX4_mark 48 = .ok (.iastore, 1) := by decide +kernel
theorem dX4_mark_49 : decode cX4_mark 49 = .ok (.aload_n 0, 1) := by decide +kernel
theorem dX4_mark_50 : decode cX4_mark 50 = .ok (.aload_n 0, 1) := by decide +kernel
theorem dX4_mark_51 : decode cX4_mark 51 = .ok (.invokevirtual 158, 3) := by decide +kernel
theorem dX4_mark_54 : decode cX4_mark 54 = .ok (.invokevirtual 193, 3) := by decide +kernel
theorem dX4_mark_57 : decode cX4_mark 57 = .ok (.ifCond .eq 8, 3) := by decide +kernel
theorem dX4_mark_60 : decode cX4_mark 60 = .ok (.iload 4, 2) := by decide +kernel
theorem dX4_mark_62 : decode cX4_mark 62 = .ok (.goto 4, 3) := by decide +kernel
theorem dX4_mark_65 : decode cX4_mark 65 = .ok (.iload_n 3, 1) := by decide +kernel
theorem dX4_mark_66 : decode cX4_mark 66 = .ok (.istore_n 3, 1) := by decide +kernel
theorem dX4_mark_67 : decode cX4_mark 67 = .ok (.iinc 4 1, 3) := by decide +kernel
theorem dX4_mark_70 : decode cX4_mark 70 = .ok (.goto (-39), 3) := by decide +kernel
theorem dX4_mark_73 : decode cX4_mark 73 = .ok (.aload_n 0, 1) := by decide +kernel
theorem dX4_mark_74 : decode cX4_mark 74 = .ok (.getfield 7, 3) := by decide +kernel
theorem dX4_mark_77 : decode cX4_mark 77 = .ok (.bipush 21, 2) := by decide +kernel
theorem dX4_mark_79 : decode cX4_mark 79 = .ok (.iload_n 2, 1) := by decide +kernel
theorem dX4_mark_80 : decode cX4_mark 80 = .ok (.iastore, 1) := by decide +kernel
theorem dX4_mark_81 : decode cX4_mark 81 = .ok (.iload_n 1, 1) := by decide +kernel
theorem dX4_mark_82 : decode cX4_mark 82 = .ok (.ifCond .ne 7, 3) := by decide +kernel
theorem dX4_mark_85 : decode cX4_mark 85 = .ok (.iload_n 3, 1) := by decide +kernel
theorem dX4_mark_86 : decode cX4_mark 86 = .ok (.goto 7, 3) := by decide +kernel
theorem dX4_mark_89 : decode cX4_mark 89 = .ok (.aload_n 0, 1) := by decide +kernel
theorem dX4_mark_90 : decode cX4_mark 90 = .ok (.getfield 189, 3) := by decide +kernel
theorem dX4_mark_93 : decode cX4_mark 93 = .ok (.ireturn, 1) := by decide +kernel
theorem dX4_give_0 : decode cX4_give 0 = .ok (.iload_n 1, 1) := by decide +kernel
theorem dX4_give_1 : decode cX4_give 1 = .ok (.i2l, 1) := by decide +kernel
theorem dX4_give_2 : decode cX4_give 2 = .ok (.lconst 0, 1) := by decide +kernel
theorem dX4_give_3 : decode cX4_give 3 = .ok (.lconst 1, 1) := by decide +kernel
theorem dX4_give_4 : decode cX4_give 4 = .ok (.invokestatic 49, 3) := by decide +kernel
theorem dX4_give_7 : decode cX4_give 7 = .ok (.ifCond .ne 5, 3) := by decide +kernel
theorem dX4_give_10 : decode cX4_give 10 = .ok (.iconst (-1), 1) := by decide +kernel
theorem dX4_give_11 : decode cX4_give 11 = .ok (.ireturn, 1) := by decide +kernel
theorem dX4_give_12 : decode cX4_give 12 = .ok (.bipush (-4), 2) := by decide +kernel
theorem dX4_give_14 : decode cX4_give 14 = .ok (.istore_n 2, 1) := by decide +kernel
theorem dX4_give_15 : decode cX4_give 15 = .ok (.aload_n 0, 1) := by decide +kernel
theorem dX4_give_16 : decode cX4_give 16 = .ok (.aload_n 0, 1) := by decide +kernel
theorem dX4_give_17 : decode cX4_give 17 = .ok (.invokevirtual 158, 3) := by decide +kernel
theorem dX4_give_20 : decode cX4_give 20 = .ok (.putfield 189, 3) := by decide +kernel
theorem dX4_give_23 : decode cX4_give 23 = .ok (.iconst 0, 1) := by decide +kernel
theorem dX4_give_24 : decode cX4_give 24 = .ok (.istore_n 3, 1) := by decide +kernel
theorem dX4_give_25 : decode cX4_give 25 = .ok (.iload_n 3, 1) := by decide +kernel
theorem dX4_give_26 : decode cX4_give 26 = .ok (.bipush 12, 2) := by decide +kernel
theorem dX4_give_28 : decode cX4_give 28 = .ok (.if_icmp .ge 85, 3) := by decide +kernel
theorem dX4_give_31 : decode cX4_give 31 = .ok (.aload_n 0, 1) := by decide +kernel
theorem dX4_give_32 : decode cX4_give 32 = .ok (.getfield 7, 3) := by decide +kernel
theorem dX4_give_35 : decode cX4_give 35 = .ok (.bipush 8, 2) := by decide +kernel
theorem dX4_give_37 : decode cX4_give 37 = .ok (.iload_n 3, 1) := by decide +kernel
theorem dX4_give_38 : decode cX4_give 38 = .ok (.iadd, 1) := by decide +kernel
theorem dX4_give_39 : decode cX4_give 39 = .ok (.iaload, 1) := by decide +kernel
theorem dX4_give_40 : decode cX4_give 40 = .ok (.istore 4, 2) := by decide +kernel
theorem dX4_give_42 : decode cX4_give 42 = .ok (.iconst 0, 1) := by decide +kernel
theorem dX4_give_43 : decode cX4_give 43 = .ok (.istore 5, 2) := by decide +kernel
theorem dX4_give_45 : decode cX4_give 45 = .ok (.iload 5, 2) := by decide +kernel
theorem dX4_give_47 : decode cX4_give 47 = .ok (.aload_n 0, 1) := by decide +kernel
theorem dX4_give_48 : decode cX4_give 48 = .ok (.getfield 128, 3) := by decide +kernel
theorem dX4_give_51 : decode cX4_give 51 = .ok (.if_icmp .ge 45, 3) := by decide +kernel
theorem dX4_give_54 : decode cX4_give 54 = .ok (.aload_n 0, 1) := by decide +kernel
theorem dX4_give_55 : decode cX4_give 55 = .ok (.getfield 7, 3) := by decide +kernel
theorem dX4_give_58 : decode cX4_give 58 = .ok (.bipush 8, 2) := by decide +kernel
theorem dX4_give_60 : decode cX4_give 60 = .ok (.iload_n 3, 1) := by decide +kernel
theorem dX4_give_61 : decode cX4_give 61 = .ok (.iadd, 1) := by decide +kernel
theorem dX4_give_62 : decode cX4_give 62 = .ok (.iload 5, 2) := by decide +kernel
theorem dX4_give_64 : decode cX4_give 64 = .ok (.iconst 1, 1) := by decide +kernel
theorem dX4_give_65 : decode cX4_give 65 = .ok (.iadd, 1) := by decide +kernel
theorem dX4_give_66 : decode cX4_give 66 = .ok (.iastore, 1) := by decide +kernel
theorem dX4_give_67 : decode cX4_give 67 = .ok (.aload_n 0, 1) := by decide +kernel
theorem dX4_give_68 : decode cX4_give 68 = .ok (.aload_n 0, 1) := by decide +kernel
theorem dX4_give_69 : decode cX4_give 69 = .ok (.invokevirtual 158, 3) := by decide +kernel
theorem dX4_give_72 : decode cX4_give 72 = .ok (.invokevirtual 193, 3) := by decide +kernel
theorem dX4_give_75 : decode cX4_give 75 = .ok (.ifCond .eq 13, 3) := by decide +kernel
theorem dX4_give_78 : decode cX4_give 78 = .ok (.bipush 10, 2) := by decide +kernel
theorem dX4_give_80 : decode cX4_give 80 = .ok (.iload_n 3, 1) := by decide +kernel
theorem dX4_give_81 : decode cX4_give 81 = .ok (.imul, 1) := by decide +kernel
theorem dX4_give_82 : decode cX4_give 82 = .ok (.iload 5, 2) := by decide +kernel
theorem dX4_give_84 : decode cX4_give 84 = .ok (.iadd, 1) := by decide +kernel
theorem dX4_give_85 : decode cX4_give 85 = .ok (.goto 4, 3) := by decide +kernel
theorem dX4_give_88 : decode cX4_give 88 = .ok (.iload_n 2, 1) := by decide +kernel
theorem dX4_give_89 : decode cX4_give 89 = .ok (.istore_n 2, 1) := by decide +kernel
theorem dX4_give_90 : decode cX4_give 90 = .ok (.iinc 5 1, 3) := by decide +kernel
theorem dX4_give_93 : decode cX4_give 93 = .ok (.goto (-48), 3) := by decide +kernel
theorem dX4_give_96 : decode cX4_give 96 = .ok (.aload_n 0, 1) := by decide +kernel
theorem dX4_give_97 : decode cX4_give 97 = .ok (.getfield 7, 3) := by decide +kernel
theorem dX4_give_100 : decode cX4_give 100 = .ok (.bipush 8, 2) := by decide +kernel
theorem dX4_give_102 : decode cX4_give 102 = .ok (.iload_n 3, 1) := by decide +kernel
theorem dX4_give_103 : decode cX4_give 103 = .ok (.iadd, 1) := by decide +kernel
theorem dX4_give_104 : decode cX4_give 104 = .ok (.iload 4, 2) := by decide +kernel
theorem dX4_give_106 : decode cX4_give 106 = .ok (.iastore, 1) := by decide +kernel
theorem dX4_give_107 : decode cX4_give 107 = .ok (.iinc 3 1, 3) := by decide +kernel
theorem dX4_give_110 : decode cX4_give 110 = .ok (.goto (-85), 3) := by decide +kernel
theorem dX4_give_113 : decode cX4_give 113 = .ok (.iload_n 2, 1) := by decide +kernel
theorem dX4_give_114 : decode cX4_give 114 = .ok (.bipush (-4), 2) := by decide +kernel
theorem dX4_give_116 : decode cX4_give 116 = .ok (.if_icmp .eq 7, 3) := by decide +kernel
theorem dX4_give_119 : decode cX4_give 119 = .ok (.iload_n 1, 1) := by decide +kernel
theorem dX4_give_120 : decode cX4_give 120 = .ok (.ifCond .ne 7, 3) := by decide +kernel
theorem dX4_give_123 : decode cX4_give 123 = .ok (.iload_n 2, 1) := by decide +kernel
theorem dX4_give_124 : decode cX4_give 124 = .ok (.goto 7, 3) := by decide +kernel
theorem dX4_give_127 : decode cX4_give 127 = .ok (.aload_n 0, 1) := by decide +kernel
theorem dX4_give_128 : decode cX4_give 128 = .ok (.getfield 189, 3) := by decide +kernel
theorem dX4_give_131 : decode cX4_give 131 = .ok (.ireturn, 1) := by decide +kernel
theorem dX4_swap_0 : decode cX4_swap 0 = .ok (.iload_n 1, 1) := by decide +kernel
theorem dX4_swap_1 : decode cX4_swap 1 = .ok (.i2l, 1) := by decide +kernel
theorem dX4_swap_2 : decode cX4_swap 2 = .ok (.lconst 0, 1) := by decide +kernel
theorem dX4_swap_3 : decode cX4_swap 3 = .ok (.lconst 1, 1) := by decide +kernel
theorem dX4_swap_4 : decode cX4_swap 4 = .ok (.invokestatic 49, 3) := by decide +kernel
theorem dX4_swap_7 : decode cX4_swap 7 = .ok (.ifCond .ne 5, 3) := by decide +kernel
theorem dX4_swap_10 : decode cX4_swap 10 = .ok (.iconst (-1), 1) := by decide +kernel
theorem dX4_swap_11 : decode cX4_swap 11 = .ok (.ireturn, 1) := by decide +kernel
theorem dX4_swap_12 : decode cX4_swap 12 = .ok (.bipush (-4), 2) := by decide +kernel
theorem dX4_swap_14 : decode cX4_swap 14 = .ok (.istore_n 2, 1) := by decide +kernel
theorem dX4_swap_15 : decode cX4_swap 15 = .ok (.aload_n 0, 1) := by decide +kernel
theorem dX4_swap_16 : decode cX4_swap 16 = .ok (.aload_n 0, 1) := by decide +kernel
theorem dX4_swap_17 : decode cX4_swap 17 = .ok (.invokevirtual 158, 3) := by decide +kernel
theorem dX4_swap_20 : decode cX4_swap 20 = .ok (.putfield 189, 3) := by decide +kernel
theorem dX4_swap_23 : decode cX4_swap 23 = .ok (.iconst 0, 1) := by decide +kernel
theorem dX4_swap_24 : decode cX4_swap 24 = .ok (.istore_n 3, 1) := by decide +kernel
theorem dX4_swap_25 : decode cX4_swap 25 = .ok (.iload_n 3, 1) := by decide +kernel
theorem dX4_swap_26 : decode cX4_swap 26 = .ok (.bipush 12, 2) := by decide +kernel
theorem dX4_swap_28 : decode cX4_swap 28 = .ok (.if_icmp .ge 119, 3) := by decide +kernel
theorem dX4_swap_31 : decode cX4_swap 31 = .ok (.iload_n 3, 1) := by decide +kernel
theorem dX4_swap_32 : decode cX4_swap 32 = .ok (.iconst 1, 1) := by decide +kernel
theorem dX4_swap_33 : decode cX4_swap 33 = .ok (.iadd, 1) := by decide +kernel
theorem dX4_swap_34 : decode cX4_swap 34 = .ok (.istore 4, 2) := by decide +kernel
theorem dX4_swap_36 : decode cX4_swap 36 = .ok (.iload 4, 2) := by decide +kernel
theorem dX4_swap_38 : decode cX4_swap 38 = .ok (.bipush 12, 2) := by decide +kernel
theorem dX4_swap_40 : decode cX4_swap 40 = .ok (.if_icmp .ge 101, 3) := by decide +kernel
theorem dX4_swap_43 : decode cX4_swap 43 = .ok (.aload_n 0, 1) := by decide +kernel
theorem dX4_swap_44 : decode cX4_swap 44 = .ok (.getfield 7, 3) := by decide +kernel
theorem dX4_swap_47 : decode cX4_swap 47 = .ok (.bipush 8, 2) := by decide +kernel
theorem dX4_swap_49 : decode cX4_swap 49 = .ok (.iload_n 3, 1) := by decide +kernel
theorem dX4_swap_50 : decode cX4_swap 50 = .ok (.iadd, 1) := by decide +kernel
theorem dX4_swap_51 : decode cX4_swap 51 = .ok (.iaload, 1) := by decide +kernel
theorem dX4_swap_52 : decode cX4_swap 52 = .ok (.istore 5, 2) := by decide +kernel
theorem dX4_swap_54 : decode cX4_swap 54 = .ok (.aload_n 0, 1) := by decide +kernel
theorem dX4_swap_55 : decode cX4_swap 55 = .ok (.getfield 7, 3) := by decide +kernel
theorem dX4_swap_58 : decode cX4_swap 58 = .ok (.bipush 8, 2) := by decide +kernel
theorem dX4_swap_60 : decode cX4_swap 60 = .ok (.iload 4, 2) := by decide +kernel
theorem dX4_swap_62 : decode cX4_swap 62 = .ok (.iadd, 1) := by decide +kernel
theorem dX4_swap_63 : decode cX4_swap 63 = .ok (.iaload, 1) := by decide +kernel
theorem dX4_swap_64 : decode cX4_swap 64 = .ok (.istore 6, 2) := by decide +kernel
theorem dX4_swap_66 : decode cX4_swap 66 = .ok (.aload_n 0, 1) := by decide +kernel
theorem dX4_swap_67 : decode cX4_swap 67 = .ok (.getfield 7, 3) := by decide +kernel
theorem dX4_swap_70 : decode cX4_swap 70 = .ok (.bipush 8, 2) := by decide +kernel
theorem dX4_swap_72 : decode cX4_swap 72 = .ok (.iload_n 3, 1) := by decide +kernel
theorem dX4_swap_73 : decode cX4_swap 73 = .ok (.iadd, 1) := by decide +kernel
theorem dX4_swap_74 : decode cX4_swap 74 = .ok (.iload 6, 2) := by decide +kernel
theorem dX4_swap_76 : decode cX4_swap 76 = .ok (.iastore, 1) := by decide +kernel
theorem dX4_swap_77 : decode cX4_swap 77 = .ok (.aload_n 0, 1) := by decide +kernel
theorem dX4_swap_78 : decode cX4_swap 78 = .ok (.getfield 7, 3) := by decide +kernel
theorem dX4_swap_81 : decode cX4_swap 81 = .ok (.bipush 8, 2) := by decide +kernel
theorem dX4_swap_83 : decode cX4_swap 83 = .ok (.iload 4, 2) := by decide +kernel
theorem dX4_swap_85 : decode cX4_swap 85 = .ok (.iadd, 1) := by decide +kernel
theorem dX4_swap_86 : decode cX4_swap 86 = .ok (.iload 5, 2) := by decide +kernel
theorem dX4_swap_88 : decode cX4_swap 88 = .ok (.iastore, 1) := by decide +kernel
theorem dX4_swap_89 : decode cX4_swap 89 = .ok (.aload_n 0, 1) := by decide +kernel
theorem dX4_swap_90 : decode cX4_swap 90 = .ok (.aload_n 0, 1) := by decide +kernel
theorem dX4_swap_91 : decode cX4_swap 91 = .ok (.invokevirtual 158, 3) := by decide +kernel
theorem dX4_swap_94 : decode cX4_swap 94 = .ok (.invokevirtual 193, 3) := by decide +kernel
theorem dX4_swap_97 : decode cX4_swap 97 = .ok (.ifCond .eq 13, 3) := by decide +kernel
theorem dX4_swap_100 : decode cX4_swap 100 = .ok (.bipush 100, 2) := by decide +kernel
theorem dX4_swap_102 : decode cX4_swap 102 = .ok (.iload_n 3, 1) := by decide +kernel
theorem dX4_swap_103 : decode cX4_swap 103 = .ok (.imul, 1) := by decide +kernel
theorem dX4_swap_104 : decode cX4_swap 104 = .ok (.iload 4, 2) := by decide +kernel
theorem dX4_swap_106 : decode cX4_swap 106 = .ok (.iadd, 1) := by decide +kernel
theorem dX4_swap_107 : decode cX4_swap 107 = .ok (.goto 4, 3) := by decide +kernel
theorem dX4_swap_110 : decode cX4_swap 110 = .ok (.iload_n 2, 1) := by decide +kernel
theorem dX4_swap_111 : decode cX4_swap 111 = .ok (.istore_n 2, 1) := by decide +kernel
theorem dX4_swap_112 : decode cX4_swap 112 = .ok (.aload_n 0, 1) := by decide +kernel
theorem dX4_swap_113 : decode cX4_swap 113 = .ok (.getfield 7, 3) := by decide +kernel
theorem dX4_swap_116 : decode cX4_swap 116 = .ok (.bipush 8, 2) := by decide +kernel
theorem dX4_swap_118 : decode cX4_swap 118 = .ok (.iload_n 3, 1) := by decide +kernel
theorem dX4_swap_119 : decode cX4_swap 119 = .ok (.iadd, 1) := by decide +kernel
theorem dX4_swap_120 : decode cX4_swap 120 = .ok (.iload 5, 2) := by decide +kernel
theorem dX4_swap_122 : decode cX4_swap 122 = .ok (.iastore, 1) := by decide +kernel
theorem dX4_swap_123 : decode cX4_swap 123 = .ok (.aload_n 0, 1) := by decide +kernel
theorem dX4_swap_124 : decode cX4_swap 124 = .ok (.getfield 7, 3) := by decide +kernel
theorem dX4_swap_127 : decode cX4_swap 127 = .ok (.bipush 8, 2) := by decide +kernel
theorem dX4_swap_129 : decode cX4_swap 129 = .ok (.iload 4, 2) := by decide +kernel
theorem dX4_swap_131 : decode cX4_swap 131 = .ok (.iadd, 1) := by decide +kernel
theorem dX4_swap_132 : decode cX4_swap 132 = .ok (.iload 6, 2) := by decide +kernel
theorem dX4_swap_134 : decode cX4_swap 134 = .ok (.iastore, 1) := by decide +kernel
theorem dX4_swap_135 : decode cX4_swap 135 = .ok (.iinc 4 1, 3) := by decide +kernel
theorem dX4_swap_138 : decode cX4_swap 138 = .ok (.goto (-102), 3) := by decide +kernel
theorem dX4_swap_141 : decode cX4_swap 141 = .ok (.iinc 3 1, 3) := by decide +kernel
theorem dX4_swap_144 : decode cX4_swap 144 = .ok (.goto (-119), 3) := by decide +kernel
theorem dX4_swap_147 : decode cX4_swap 147 = .ok (.iload_n 2, 1) := by decide +kernel
theorem dX4_swap_148 : decode cX4_swap 148 = .ok (.bipush (-4), 2) := by decide +kernel
theorem dX4_swap_150 : decode cX4_swap 150 = .ok (.if_icmp .eq 7, 3) := by decide +kernel
theorem dX4_swap_153 : decode cX4_swap 153 = .ok (.iload_n 1, 1) := by decide +kernel
theorem dX4_swap_154 : decode cX4_swap 154 = .ok (.ifCond .ne 7, 3) := by decide +kernel
theorem dX4_swap_157 : decode cX4_swap 157 = .ok (.iload_n 2, 1) := by decide +kernel
theorem dX4_swap_158 : decode cX4_swap 158 = .ok (.goto 7, 3) := by decide +kernel
theorem dX4_swap_161 : decode cX4_swap 161 = .ok (.aload_n 0, 1) := by decide +kernel
theorem dX4_swap_162 : decode cX4_swap 162 = .ok (.getfield 189, 3) := by decide +kernel
theorem dX4_swap_165 : decode cX4_swap 165 = .ok (.ireturn, 1) := by decide +kernel
theorem dX4_copies_0 : decode cX4_copies 0 = .ok (.iconst 0, 1) := by decide +kernel
theorem dX4_copies_1 : decode cX4_copies 1 = .ok (.istore_n 3, 1) := by decide +kernel
theorem dX4_copies_2 : decode cX4_copies 2 = .ok (.iload_n 3, 1) := by decide +kernel
theorem dX4_copies_3 : decode cX4_copies 3 = .ok (.bipush 33, 2) := by decide +kernel
theorem dX4_copies_5 : decode cX4_copies 5 = .ok (.if_icmp .ge 25, 3) := by decide +kernel
theorem dX4_copies_8 : decode cX4_copies 8 = .ok (.aload_n 0, 1) := by decide +kernel
theorem dX4_copies_9 : decode cX4_copies 9 = .ok (.getfield 7, 3) := by decide +kernel
theorem dX4_copies_12 : decode cX4_copies 12 = .ok (.iload_n 2, 1) := by decide +kernel
theorem dX4_copies_13 : decode cX4_copies 13 = .ok (.iload_n 3, 1) := by decide +kernel
theorem dX4_copies_14 : decode cX4_copies 14 = .ok (.iadd, 1) := by decide +kernel
theorem dX4_copies_15 : decode cX4_copies 15 = .ok (.aload_n 0, 1) := by decide +kernel
theorem dX4_copies_16 : decode cX4_copies 16 = .ok (.getfield 7, 3) := by decide +kernel
theorem dX4_copies_19 : decode cX4_copies 19 = .ok (.iload_n 1, 1) := by decide +kernel
theorem dX4_copies_20 : decode cX4_copies 20 = .ok (.iload_n 3, 1) := by decide +kernel
theorem dX4_copies_21 : decode cX4_copies 21 = .ok (.iadd, 1) := by decide +kernel
theorem dX4_copies_22 : decode cX4_copies 22 = .ok (.iaload, 1) := by decide +kernel
theorem dX4_copies_23 : decode cX4_copies 23 = .ok (.iastore, 1) := by decide +kernel
theorem dX4_copies_24 : decode cX4_copies 24 = .ok (.iinc 3 1, 3) := by decide +kernel
theorem dX4_copies_27 : decode cX4_copies 27 = .ok (.goto (-25), 3) := by decide +kernel
theorem dX4_copies_30 : decode cX4_copies 30 = .ok (.return_, 1) := by decide +kernel
theorem dX4_sole_0 : decode cX4_sole 0 = .ok (.iload_n 1, 1) := by decide +kernel
theorem dX4_sole_1 : decode cX4_sole 1 = .ok (.i2l, 1) := by decide +kernel
theorem dX4_sole_2 : decode cX4_sole 2 = .ok (.lconst 0, 1) := by decide +kernel
theorem dX4_sole_3 : decode cX4_sole 3 = .ok (.lconst 1, 1) := by decide +kernel
theorem dX4_sole_4 : decode cX4_sole 4 = .ok (.invokestatic 49, 3) := by decide +kernel
theorem dX4_sole_7 : decode cX4_sole 7 = .ok (.ifCond .ne 5, 3) := by decide +kernel
theorem dX4_sole_10 : decode cX4_sole 10 = .ok (.iconst (-1), 1) := by decide +kernel
theorem dX4_sole_11 : decode cX4_sole 11 = .ok (.ireturn, 1) := by decide +kernel
theorem dX4_sole_12 : decode cX4_sole 12 = .ok (.aload_n 0, 1) := by decide +kernel
theorem dX4_sole_13 : decode cX4_sole 13 = .ok (.iconst 0, 1) := by decide +kernel
theorem dX4_sole_14 : decode cX4_sole 14 = .ok (.bipush 99, 2) := by decide +kernel
theorem dX4_sole_16 : decode cX4_sole 16 = .ok (.invokevirtual 196, 3) := by decide +kernel
theorem dX4_sole_19 : decode cX4_sole 19 = .ok (.bipush (-4), 2) := by decide +kernel
theorem dX4_sole_21 : decode cX4_sole 21 = .ok (.istore_n 2, 1) := by decide +kernel
theorem dX4_sole_22 : decode cX4_sole 22 = .ok (.aload_n 0, 1) := by decide +kernel
theorem dX4_sole_23 : decode cX4_sole 23 = .ok (.ldc 192, 2) := by decide +kernel
theorem dX4_sole_25 : decode cX4_sole 25 = .ok (.putfield 189, 3) := by decide +kernel
theorem dX4_sole_28 : decode cX4_sole 28 = .ok (.iconst 0, 1) := by decide +kernel
theorem dX4_sole_29 : decode cX4_sole 29 = .ok (.istore_n 3, 1) := by decide +kernel
theorem dX4_sole_30 : decode cX4_sole 30 = .ok (.iload_n 3, 1) := by decide +kernel
theorem dX4_sole_31 : decode cX4_sole 31 = .ok (.aload_n 0, 1) := by decide +kernel
theorem dX4_sole_32 : decode cX4_sole 32 = .ok (.getfield 128, 3) := by decide +kernel
theorem dX4_sole_35 : decode cX4_sole 35 = .ok (.if_icmp .ge 55, 3) := by decide +kernel
theorem dX4_sole_38 : decode cX4_sole 38 = .ok (.iconst 0, 1) := by decide +kernel
theorem dX4_sole_39 : decode cX4_sole 39 = .ok (.istore 4, 2) := by decide +kernel
theorem dX4_sole_41 : decode cX4_sole 41 = .ok (.iload 4, 2) := by decide +kernel
theorem dX4_sole_43 : decode cX4_sole 43 = .ok (.bipush 12, 2) := by decide +kernel
theorem dX4_sole_45 : decode cX4_sole 45 = .ok (.if_icmp .ge 22, 3) := by decide +kernel
theorem dX4_sole_48 : decode cX4_sole 48 = .ok (.aload_n 0, 1) := by decide +kernel
theorem dX4_sole_49 : decode cX4_sole 49 = .ok (.getfield 7, 3) := by decide +kernel
theorem dX4_sole_52 : decode cX4_sole 52 = .ok (.bipush 8, 2) := by decide +kernel
theorem dX4_sole_54 : decode cX4_sole 54 = .ok (.iload 4, 2) := by decide +kernel
theorem dX4_sole_56 : decode cX4_sole 56 = .ok (.iadd, 1) := by decide +kernel
theorem dX4_sole_57 : decode cX4_sole 57 = .ok (.iload_n 3, 1) := by decide +kernel
theorem dX4_sole_58 : decode cX4_sole 58 = .ok (.iconst 1, 1) := by decide +kernel
theorem dX4_sole_59 : decode cX4_sole 59 = .ok (.iadd, 1) := by decide +kernel
theorem dX4_sole_60 : decode cX4_sole 60 = .ok (.iastore, 1) := by decide +kernel
theorem dX4_sole_61 : decode cX4_sole 61 = .ok (.iinc 4 1, 3) := by decide +kernel
theorem dX4_sole_64 : decode cX4_sole 64 = .ok (.goto (-23), 3) := by decide +kernel
theorem dX4_sole_67 : decode cX4_sole 67 = .ok (.aload_n 0, 1) := by decide +kernel
theorem dX4_sole_68 : decode cX4_sole 68 = .ok (.aload_n 0, 1) := by decide +kernel
theorem dX4_sole_69 : decode cX4_sole 69 = .ok (.invokevirtual 158, 3) := by decide +kernel
theorem dX4_sole_72 : decode cX4_sole 72 = .ok (.invokevirtual 193, 3) := by decide +kernel
theorem dX4_sole_75 : decode cX4_sole 75 = .ok (.ifCond .eq 7, 3) := by decide +kernel
theorem dX4_sole_78 : decode cX4_sole 78 = .ok (.iload_n 3, 1) := by decide +kernel
theorem dX4_sole_79 : decode cX4_sole 79 = .ok (.goto 4, 3) := by decide +kernel
theorem dX4_sole_82 : decode cX4_sole 82 = .ok (.iload_n 2, 1) := by decide +kernel
theorem dX4_sole_83 : decode cX4_sole 83 = .ok (.istore_n 2, 1) := by decide +kernel
theorem dX4_sole_84 : decode cX4_sole 84 = .ok (.iinc 3 1, 3) := by decide +kernel
theorem dX4_sole_87 : decode cX4_sole 87 = .ok (.goto (-57), 3) := by decide +kernel
theorem dX4_sole_90 : decode cX4_sole 90 = .ok (.aload_n 0, 1) := by decide +kernel
theorem dX4_sole_91 : decode cX4_sole 91 = .ok (.bipush 99, 2) := by decide +kernel
theorem dX4_sole_93 : decode cX4_sole 93 = .ok (.iconst 0, 1) := by decide +kernel
theorem dX4_sole_94 : decode cX4_sole 94 = .ok (.invokevirtual 196, 3) := by decide +kernel
theorem dX4_sole_97 : decode cX4_sole 97 = .ok (.iload_n 2, 1) := by decide +kernel
theorem dX4_sole_98 : decode cX4_sole 98 = .ok (.bipush (-4), 2) := by decide +kernel
theorem dX4_sole_100 : decode cX4_sole 100 = .ok (.if_icmp .eq 7, 3) := by decide +kernel
theorem dX4_sole_103 : decode cX4_sole 103 = .ok (.iload_n 1, 1) := by decide +kernel
theorem dX4_sole_104 : decode cX4_sole 104 = .ok (.ifCond .ne 7, 3) := by decide +kernel
theorem dX4_sole_107 : decode cX4_sole 107 = .ok (.iload_n 2, 1) := by decide +kernel
theorem dX4_sole_108 : decode cX4_sole 108 = .ok (.goto 7, 3) := by decide +kernel
theorem dX4_sole_111 : decode cX4_sole 111 = .ok (.aload_n 0, 1) := by decide +kernel
theorem dX4_sole_112 : decode cX4_sole 112 = .ok (.getfield 189, 3) := by decide +kernel
theorem dX4_sole_115 : decode cX4_sole 115 = .ok (.ireturn, 1) := by decide +kernel
theorem dX4_lowest_0 : decode cX4_lowest 0 = .ok (.lload_n 0, 1) := by decide +kernel
theorem dX4_lowest_1 : decode cX4_lowest 1 = .ok (.lstore 5, 2) := by decide +kernel
theorem dX4_lowest_3 : decode cX4_lowest 3 = .ok (.lload_n 2, 1) := by decide +kernel
theorem dX4_lowest_4 : decode cX4_lowest 4 = .ok (.lstore 7, 2) := by decide +kernel
theorem dX4_lowest_6 : decode cX4_lowest 6 = .ok (.lload 7, 2) := by decide +kernel
theorem dX4_lowest_8 : decode cX4_lowest 8 = .ok (.lconst 0, 1) := by decide +kernel
theorem dX4_lowest_9 : decode cX4_lowest 9 = .ok (.lcmp, 1) := by decide +kernel
theorem dX4_lowest_10 : decode cX4_lowest 10 = .ok (.ifCond .eq 21, 3) := by decide +kernel
theorem dX4_lowest_13 : decode cX4_lowest 13 = .ok (.lload 5, 2) := by decide +kernel
theorem dX4_lowest_15 : decode cX4_lowest 15 = .ok (.lload 7, 2) := by decide +kernel
theorem dX4_lowest_17 : decode cX4_lowest 17 = .ok (.lrem, 1) := by decide +kernel
theorem dX4_lowest_18 : decode cX4_lowest 18 = .ok (.lstore 9, 2) := by decide +kernel
theorem dX4_lowest_20 : decode cX4_lowest 20 = .ok (.lload 7, 2) := by decide +kernel
theorem dX4_lowest_22 : decode cX4_lowest 22 = .ok (.lstore 5, 2) := by decide +kernel
theorem dX4_lowest_24 : decode cX4_lowest 24 = .ok (.lload 9, 2) := by decide +kernel
theorem dX4_lowest_26 : decode cX4_lowest 26 = .ok (.lstore 7, 2) := by decide +kernel
theorem dX4_lowest_28 : decode cX4_lowest 28 = .ok (.goto (-22), 3) := by decide +kernel
theorem dX4_lowest_31 : decode cX4_lowest 31 = .ok (.iload 4, 2) := by decide +kernel
theorem dX4_lowest_33 : decode cX4_lowest 33 = .ok (.ifCond .ne 7, 3) := by decide +kernel
theorem dX4_lowest_36 : decode cX4_lowest 36 = .ok (.lload_n 0, 1) := by decide +kernel
theorem dX4_lowest_37 : decode cX4_lowest 37 = .ok (.goto 4, 3) := by decide +kernel
theorem dX4_lowest_40 : decode cX4_lowest 40 = .ok (.lload_n 2, 1) := by decide +kernel
theorem dX4_lowest_41 : decode cX4_lowest 41 = .ok (.lload 5, 2) := by decide +kernel
theorem dX4_lowest_43 : decode cX4_lowest 43 = .ok (.ldiv, 1) := by decide +kernel
theorem dX4_lowest_44 : decode cX4_lowest 44 = .ok (.lreturn, 1) := by decide +kernel
theorem dX4_byClouds_0 : decode cX4_byClouds 0 = .ok (.aload_n 0, 1) := by decide +kernel
theorem dX4_byClouds_1 : decode cX4_byClouds 1 = .ok (.getfield 7, 3) := by decide +kernel
theorem dX4_byClouds_4 : decode cX4_byClouds 4 = .ok (.bipush 20, 2) := by decide +kernel
theorem dX4_byClouds_6 : decode cX4_byClouds 6 = .ok (.iaload, 1) := by decide +kernel
theorem dX4_byClouds_7 : decode cX4_byClouds 7 = .ok (.istore 4, 2) := by decide +kernel
theorem dX4_byClouds_9 : decode cX4_byClouds 9 = .ok (.aload_n 0, 1) := by decide +kernel
theorem dX4_byClouds_10 : decode cX4_byClouds 10 = .ok (.bipush (-4), 2) := by decide +kernel
theorem dX4_byClouds_12 : decode cX4_byClouds 12 = .ok (.invokevirtual 155, 3) := by decide +kernel
theorem dX4_byClouds_15 : decode cX4_byClouds 15 = .ok (.iload 4, 2) := by decide +kernel
theorem dX4_byClouds_17 : decode cX4_byClouds 17 = .ok (.iconst (-1), 1) := by decide +kernel
theorem dX4_byClouds_18 : decode cX4_byClouds 18 = .ok (.ixor, 1) := by decide +kernel
theorem dX4_byClouds_19 : decode cX4_byClouds 19 = .ok (.iand, 1) := by decide +kernel
theorem dX4_byClouds_20 : decode cX4_byClouds 20 = .ok (.istore 5, 2) := by decide +kernel
theorem dX4_byClouds_22 : decode cX4_byClouds 22 = .ok (.lconst 0, 1) := by decide +kernel
theorem dX4_byClouds_23 : decode cX4_byClouds 23 = .ok (.lstore 6, 2) := by decide +kernel
theorem dX4_byClouds_25 : decode cX4_byClouds 25 = .ok (.lconst 1, 1) := by decide +kernel
theorem dX4_byClouds_26 : decode cX4_byClouds 26 = .ok (.lstore 8, 2) := by decide +kernel
theorem dX4_byClouds_28 : decode cX4_byClouds 28 = .ok (.iconst 0, 1) := by decide +kernel
theorem dX4_byClouds_29 : decode cX4_byClouds 29 = .ok (.istore 10, 2) := by decide +kernel
theorem dX4_byClouds_31 : decode cX4_byClouds 31 = .ok (.iload 10, 2) := by decide +kernel
theorem dX4_byClouds_33 : decode cX4_byClouds 33 = .ok (.bipush 12, 2) := by decide +kernel
theorem dX4_byClouds_35 : decode cX4_byClouds 35 = .ok (.if_icmp .ge 32, 3) := by decide +kernel
theorem dX4_byClouds_38 : decode cX4_byClouds 38 = .ok (.lload 8, 2) := by decide +kernel
theorem dX4_byClouds_40 : decode cX4_byClouds 40 = .ok (.iload 5, 2) := by decide +kernel
theorem dX4_byClouds_42 : decode cX4_byClouds 42 = .ok (.iload 10, 2) := by decide +kernel
theorem dX4_byClouds_44 : decode cX4_byClouds 44 = .ok (.ishr, 1) := by decide +kernel
theorem dX4_byClouds_45 : decode cX4_byClouds 45 = .ok (.iconst 1, 1) := by decide +kernel
theorem dX4_byClouds_46 : decode cX4_byClouds 46 = .ok (.iand, 1) := by decide +kernel
theorem dX4_byClouds_47 : decode cX4_byClouds 47 = .ok (.iconst 1, 1) := by decide +kernel
theorem dX4_byClouds_48 : decode cX4_byClouds 48 = .ok (.if_icmp .ne 9, 3) := by decide +kernel
theorem dX4_byClouds_51 : decode cX4_byClouds 51 = .ok (.ldc2_w 200, 3) := by decide +kernel
theorem dX4_byClouds_54 : decode cX4_byClouds 54 = .ok (.goto 4, 3) := by decide +kernel
theorem dX4_byClouds_57 : decode cX4_byClouds 57 = .ok (.lconst 1, 1) := by decide +kernel
theorem dX4_byClouds_58 : decode cX4_byClouds 58 = .ok (.lmul, 1) := by decide +kernel
theorem dX4_byClouds_59 : decode cX4_byClouds 59 = .ok (.lstore 8, 2) := by decide +kernel
theorem dX4_byClouds_61 : decode cX4_byClouds 61 = .ok (.iinc 10 1, 3) := by decide +kernel
theorem dX4_byClouds_64 : decode cX4_byClouds 64 = .ok (.goto (-33), 3) := by decide +kernel
theorem dX4_byClouds_67 : decode cX4_byClouds 67 = .ok (.iconst 0, 1) := by decide +kernel
theorem dX4_byClouds_68 : decode cX4_byClouds 68 = .ok (.istore 10, 2) := by decide +kernel
theorem dX4_byClouds_70 : decode cX4_byClouds 70 = .ok (.iload 10, 2) := by decide +kernel
theorem dX4_byClouds_72 : decode cX4_byClouds 72 = .ok (.sipush 4096, 3) := by decide +kernel
theorem dX4_byClouds_75 : decode cX4_byClouds 75 = .ok (.if_icmp .ge 131, 3) := by decide +kernel
theorem dX4_byClouds_78 : decode cX4_byClouds 78 = .ok (.iload 10, 2) := by decide +kernel
theorem dX4_byClouds_80 : decode cX4_byClouds 80 = .ok (.iload 5, 2) := by decide +kernel
theorem dX4_byClouds_82 : decode cX4_byClouds 82 = .ok (.iconst (-1), 1) := by decide +kernel
theorem dX4_byClouds_83 : decode cX4_byClouds 83 = .ok (.ixor, 1) := by decide +kernel
theorem dX4_byClouds_84 : decode cX4_byClouds 84 = .ok (.iand, 1) := by decide +kernel
theorem dX4_byClouds_85 : decode cX4_byClouds 85 = .ok (.ifCond .ne 115, 3) := by decide +kernel
theorem dX4_byClouds_88 : decode cX4_byClouds 88 = .ok (.lconst 1, 1) := by decide +kernel
theorem dX4_byClouds_89 : decode cX4_byClouds 89 = .ok (.lstore 11, 2) := by decide +kernel
theorem dX4_byClouds_91 : decode cX4_byClouds 91 = .ok (.iconst 0, 1) := by decide +kernel
theorem dX4_byClouds_92 : decode cX4_byClouds 92 = .ok (.istore 13, 2) := by decide +kernel
theorem dX4_byClouds_94 : decode cX4_byClouds 94 = .ok (.iload 13, 2) := by decide +kernel
theorem dX4_byClouds_96 : decode cX4_byClouds 96 = .ok (.bipush 12, 2) := by decide +kernel
theorem dX4_byClouds_98 : decode cX4_byClouds 98 = .ok (.if_icmp .ge 49, 3) := by decide +kernel
theorem dX4_byClouds_101 : decode cX4_byClouds 101 = .ok (.lload 11, 2) := by decide +kernel
theorem dX4_byClouds_103 : decode cX4_byClouds 103 = .ok (.iload 5, 2) := by decide +kernel
theorem dX4_byClouds_105 : decode cX4_byClouds 105 = .ok (.iload 13, 2) := by decide +kernel
theorem dX4_byClouds_107 : decode cX4_byClouds 107 = .ok (.ishr, 1) := by decide +kernel
theorem dX4_byClouds_108 : decode cX4_byClouds 108 = .ok (.iconst 1, 1) := by decide +kernel
theorem dX4_byClouds_109 : decode cX4_byClouds 109 = .ok (.iand, 1) := by decide +kernel
theorem dX4_byClouds_110 : decode cX4_byClouds 110 = .ok (.ifCond .ne 7, 3) := by decide +kernel
theorem dX4_byClouds_113 : decode cX4_byClouds 113 = .ok (.lconst 1, 1) := by decide +kernel
theorem dX4_byClouds_114 : decode cX4_byClouds 114 = .ok (.goto 24, 3) := by decide +kernel
theorem dX4_byClouds_117 : decode cX4_byClouds 117 = .ok (.iload 10, 2) := by decide +kernel
theorem dX4_byClouds_119 : decode cX4_byClouds 119 = .ok (.iload 13, 2) := by decide +kernel
theorem dX4_byClouds_121 : decode cX4_byClouds 121 = .ok (.ishr, 1) := by decide +kernel
theorem dX4_byClouds_122 : decode cX4_byClouds 122 = .ok (.iconst 1, 1) := by decide +kernel
theorem dX4_byClouds_123 : decode cX4_byClouds 123 = .ok (.iand, 1) := by decide +kernel
theorem dX4_byClouds_124 : decode cX4_byClouds 124 = .ok (.iconst 1, 1) := by decide +kernel
theorem dX4_byClouds_125 : decode cX4_byClouds 125 = .ok (.if_icmp .ne 8, 3) := by decide +kernel
theorem dX4_byClouds_128 : decode cX4_byClouds 128 = .ok (.iload_n 1, 1) := by decide +kernel
theorem dX4_byClouds_129 : decode cX4_byClouds 129 = .ok (.i2l, 1) := by decide +kernel
theorem dX4_byClouds_130 : decode cX4_byClouds 130 = .ok (.goto 8, 3) := by decide +kernel
theorem dX4_byClouds_133 : decode cX4_byClouds 133 = .ok (.bipush 10, 2) := by decide +kernel
theorem dX4_byClouds_135 : decode cX4_byClouds 135 = .ok (.iload_n 1, 1) := by decide +kernel
theorem dX4_byClouds_136 : decode cX4_byClouds 136 = .ok (.isub, 1) := by decide +kernel
theorem dX4_byClouds_137 : decode cX4_byClouds 137 = .ok (.i2l, 1) := by decide +kernel
theorem dX4_byClouds_138 : decode cX4_byClouds 138 = .ok (.lmul, 1) := by decide +kernel
theorem dX4_byClouds_139 : decode cX4_byClouds 139 = .ok (.lstore 11, 2) := by decide +kernel
theorem dX4_byClouds_141 : decode cX4_byClouds 141 = .ok (.iinc 13 1, 3) := by decide +kernel
theorem dX4_byClouds_144 : decode cX4_byClouds 144 = .ok (.goto (-50), 3) := by decide +kernel
theorem dX4_byClouds_147 : decode cX4_byClouds 147 = .ok (.aload_n 0, 1) := by decide +kernel
theorem dX4_byClouds_148 : decode cX4_byClouds 148 = .ok (.getfield 7, 3) := by decide +kernel
theorem dX4_byClouds_151 : decode cX4_byClouds 151 = .ok (.bipush 20, 2) := by decide +kernel
theorem dX4_byClouds_153 : decode cX4_byClouds 153 = .ok (.iload 4, 2) := by decide +kernel
theorem dX4_byClouds_155 : decode cX4_byClouds 155 = .ok (.iload 10, 2) := by decide +kernel
theorem dX4_byClouds_157 : decode cX4_byClouds 157 = .ok (.ior, 1) := by decide +kernel
theorem dX4_byClouds_158 : decode cX4_byClouds 158 = .ok (.iastore, 1) := by decide +kernel
theorem dX4_byClouds_159 : decode cX4_byClouds 159 = .ok (.aload_n 0, 1) := by decide +kernel
theorem dX4_byClouds_160 : decode cX4_byClouds 160 = .ok (.invokevirtual 158, 3) := by decide +kernel
theorem dX4_byClouds_163 : decode cX4_byClouds 163 = .ok (.istore 13, 2) := by decide +kernel
theorem dX4_byClouds_165 : decode cX4_byClouds 165 = .ok (.lload 6, 2) := by decide +kernel
theorem dX4_byClouds_167 : decode cX4_byClouds 167 = .ok (.lload 11, 2) := by decide +kernel
theorem dX4_byClouds_169 : decode cX4_byClouds 169 = .ok (.iload_n 2, 1) := by decide +kernel
theorem dX4_byClouds_170 : decode cX4_byClouds 170 = .ok (.bipush (-4), 2) := by decide +kernel
theorem dX4_byClouds_172 : decode cX4_byClouds 172 = .ok (.if_icmp .ne 8, 3) := by decide +kernel
theorem dX4_byClouds_175 : decode cX4_byClouds 175 = .ok (.iload 13, 2) := by decide +kernel
theorem dX4_byClouds_177 : decode cX4_byClouds 177 = .ok (.goto 18, 3) := by decide +kernel
theorem dX4_byClouds_180 : decode cX4_byClouds 180 = .ok (.aload_n 0, 1) := by decide +kernel
theorem dX4_byClouds_181 : decode cX4_byClouds 181 = .ok (.iload_n 2, 1) := by decide +kernel
theorem dX4_byClouds_182 : decode cX4_byClouds 182 = .ok (.invokevirtual 146, 3) := by decide +kernel
theorem dX4_byClouds_185 : decode cX4_byClouds 185 = .ok (.bipush (-4), 2) := by decide +kernel
theorem dX4_byClouds_187 : decode cX4_byClouds 187 = .ok (.if_icmp .ne 7, 3) := by decide +kernel
theorem dX4_byClouds_190 : decode cX4_byClouds 190 = .ok (.iconst 0, 1) := by decide +kernel
theorem dX4_byClouds_191 : decode cX4_byClouds 191 = .ok (.goto 4, 3) := by decide +kernel
theorem dX4_byClouds_194 : decode cX4_byClouds 194 = .ok (.iconst 1, 1) := by decide +kernel
theorem dX4_byClouds_195 : decode cX4_byClouds 195 = .ok (.i2l, 1) := by decide +kernel
theorem dX4_byClouds_196 : decode cX4_byClouds 196 = .ok (.lmul, 1) := by decide +kernel
theorem dX4_byClouds_197 : decode cX4_byClouds 197 = .ok (.ladd, 1) := by decide +kernel
theorem dX4_byClouds_198 : decode cX4_byClouds 198 = .ok (.lstore 6, 2) := by decide +kernel
theorem dX4_byClouds_200 : decode cX4_byClouds 200 = .ok (.iinc 10 1, 3) := by decide +kernel
theorem dX4_byClouds_203 : decode cX4_byClouds 203 = .ok (.goto (-133), 3) := by decide +kernel
theorem dX4_byClouds_206 : decode cX4_byClouds 206 = .ok (.aload_n 0, 1) := by decide +kernel
theorem dX4_byClouds_207 : decode cX4_byClouds 207 = .ok (.getfield 7, 3) := by decide +kernel
theorem dX4_byClouds_210 : decode cX4_byClouds 210 = .ok (.bipush 20, 2) := by decide +kernel
theorem dX4_byClouds_212 : decode cX4_byClouds 212 = .ok (.iload 4, 2) := by decide +kernel
theorem dX4_byClouds_214 : decode cX4_byClouds 214 = .ok (.iastore, 1) := by decide +kernel
theorem dX4_byClouds_215 : decode cX4_byClouds 215 = .ok (.lload 6, 2) := by decide +kernel
theorem dX4_byClouds_217 : decode cX4_byClouds 217 = .ok (.lload 8, 2) := by decide +kernel
theorem dX4_byClouds_219 : decode cX4_byClouds 219 = .ok (.iload_n 3, 1) := by decide +kernel
theorem dX4_byClouds_220 : decode cX4_byClouds 220 = .ok (.invokestatic 202, 3) := by decide +kernel
theorem dX4_byClouds_223 : decode cX4_byClouds 223 = .ok (.lreturn, 1) := by decide +kernel
theorem dX4_mean_0 : decode cX4_mean 0 = .ok (.iload_n 1, 1) := by decide +kernel
theorem dX4_mean_1 : decode cX4_mean 1 = .ok (.i2l, 1) := by decide +kernel
theorem dX4_mean_2 : decode cX4_mean 2 = .ok (.lconst 0, 1) := by decide +kernel
theorem dX4_mean_3 : decode cX4_mean 3 = .ok (.ldc2_w 200, 3) := by decide +kernel
theorem dX4_mean_6 : decode cX4_mean 6 = .ok (.invokestatic 49, 3) := by decide +kernel
theorem dX4_mean_9 : decode cX4_mean 9 = .ok (.ifCond .eq 24, 3) := by decide +kernel
theorem dX4_mean_12 : decode cX4_mean 12 = .ok (.iload_n 2, 1) := by decide +kernel
theorem dX4_mean_13 : decode cX4_mean 13 = .ok (.i2l, 1) := by decide +kernel
theorem dX4_mean_14 : decode cX4_mean 14 = .ok (.lconst 0, 1) := by decide +kernel
theorem dX4_mean_15 : decode cX4_mean 15 = .ok (.lconst 1, 1) := by decide +kernel
theorem dX4_mean_16 : decode cX4_mean 16 = .ok (.invokestatic 49, 3) := by decide +kernel
theorem dX4_mean_19 : decode cX4_mean 19 = .ok (.ifCond .eq 14, 3) := by decide +kernel
theorem dX4_mean_22 : decode cX4_mean 22 = .ok (.aload_n 0, 1) := by decide +kernel
theorem dX4_mean_23 : decode cX4_mean 23 = .ok (.iload_n 1, 1) := by decide +kernel
theorem dX4_mean_24 : decode cX4_mean 24 = .ok (.bipush (-4), 2) := by decide +kernel
theorem dX4_mean_26 : decode cX4_mean 26 = .ok (.iload_n 2, 1) := by decide +kernel
theorem dX4_mean_27 : decode cX4_mean 27 = .ok (.invokevirtual 206, 3) := by decide +kernel
theorem dX4_mean_30 : decode cX4_mean 30 = .ok (.goto 6, 3) := by decide +kernel
theorem dX4_mean_33 : decode cX4_mean 33 = .ok (.ldc2_w 210, 3) := by decide +kernel
theorem dX4_mean_36 : decode cX4_mean 36 = .ok (.lreturn, 1) := by decide +kernel
theorem dX4_luck_0 : decode cX4_luck 0 = .ok (.iload_n 1, 1) := by decide +kernel
theorem dX4_luck_1 : decode cX4_luck 1 = .ok (.i2l, 1) := by decide +kernel
theorem dX4_luck_2 : decode cX4_luck 2 = .ok (.lconst 0, 1) := by decide +kernel
theorem dX4_luck_3 : decode cX4_luck 3 = .ok (.ldc2_w 200, 3) := by decide +kernel
theorem dX4_luck_6 : decode cX4_luck 6 = .ok (.invokestatic 49, 3) := by decide +kernel
theorem dX4_luck_9 : decode cX4_luck 9 = .ok (.ifCond .eq 31, 3) := by decide +kernel
theorem dX4_luck_12 : decode cX4_luck 12 = .ok (.aload_n 0, 1) := by decide +kernel
theorem dX4_luck_13 : decode cX4_luck 13 = .ok (.iload_n 2, 1) := by decide +kernel
theorem dX4_luck_14 : decode cX4_luck 14 = .ok (.invokevirtual 173, 3) := by decide +kernel
theorem dX4_luck_17 : decode cX4_luck 17 = .ok (.ifCond .eq 23, 3) := by decide +kernel
theorem dX4_luck_20 : decode cX4_luck 20 = .ok (.iload_n 3, 1) := by decide +kernel
theorem dX4_luck_21 : decode cX4_luck 21 = .ok (.i2l, 1) := by decide +kernel
theorem dX4_luck_22 : decode cX4_luck 22 = .ok (.lconst 0, 1) := by decide +kernel
theorem dX4_luck_23 : decode cX4_luck 23 = .ok (.lconst 1, 1) := by decide +kernel
theorem dX4_luck_24 : decode cX4_luck 24 = .ok (.invokestatic 49, 3) := by decide +kernel
theorem dX4_luck_27 : decode cX4_luck 27 = .ok (.ifCond .eq 13, 3) := by decide +kernel
theorem dX4_luck_30 : decode cX4_luck 30 = .ok (.aload_n 0, 1) := by decide +kernel
theorem dX4_luck_31 : decode cX4_luck 31 = .ok (.iload_n 1, 1) := by decide +kernel
theorem dX4_luck_32 : decode cX4_luck 32 = .ok (.iload_n 2, 1) := by decide +kernel
theorem dX4_luck_33 : decode cX4_luck 33 = .ok (.iload_n 3, 1) := by decide +kernel
theorem dX4_luck_34 : decode cX4_luck 34 = .ok (.invokevirtual 206, 3) := by decide +kernel
theorem dX4_luck_37 : decode cX4_luck 37 = .ok (.goto 6, 3) := by decide +kernel
theorem dX4_luck_40 : decode cX4_luck 40 = .ok (.ldc2_w 210, 3) := by decide +kernel
theorem dX4_luck_43 : decode cX4_luck 43 = .ok (.lreturn, 1) := by decide +kernel
theorem dX4_see_0 : decode cX4_see 0 = .ok (.aload_n 0, 1) := by decide +kernel
theorem dX4_see_1 : decode cX4_see 1 = .ok (.iload_n 1, 1) := by decide +kernel
theorem dX4_see_2 : decode cX4_see 2 = .ok (.invokevirtual 173, 3) := by decide +kernel
theorem dX4_see_5 : decode cX4_see 5 = .ok (.ifCond .eq 21, 3) := by decide +kernel
theorem dX4_see_8 : decode cX4_see 8 = .ok (.iload_n 2, 1) := by decide +kernel
theorem dX4_see_9 : decode cX4_see 9 = .ok (.bipush (-4), 2) := by decide +kernel
theorem dX4_see_11 : decode cX4_see 11 = .ok (.if_icmp .eq 17, 3) := by decide +kernel
theorem dX4_see_14 : decode cX4_see 14 = .ok (.iload_n 2, 1) := by decide +kernel
theorem dX4_see_15 : decode cX4_see 15 = .ok (.i2l, 1) := by decide +kernel
theorem dX4_see_16 : decode cX4_see 16 = .ok (.lconst 0, 1) := by decide +kernel
theorem dX4_see_17 : decode cX4_see 17 = .ok (.ldc2_w 182, 3) := by decide +kernel
theorem dX4_see_20 : decode cX4_see 20 = .ok (.invokestatic 49, 3) := by decide +kernel
theorem dX4_see_23 : decode cX4_see 23 = .ok (.ifCond .ne 5, 3) := by decide +kernel
theorem dX4_see_26 : decode cX4_see 26 = .ok (.iconst (-1), 1) := by decide +kernel
theorem dX4_see_27 : decode cX4_see 27 = .ok (.ireturn, 1) := by decide +kernel
theorem dX4_see_28 : decode cX4_see 28 = .ok (.aload_n 0, 1) := by decide +kernel
theorem dX4_see_29 : decode cX4_see 29 = .ok (.getfield 131, 3) := by decide +kernel
theorem dX4_see_32 : decode cX4_see 32 = .ok (.bipush 6, 2) := by decide +kernel
theorem dX4_see_34 : decode cX4_see 34 = .ok (.if_icmp .ne 6, 3) := by decide +kernel
theorem dX4_see_37 : decode cX4_see 37 = .ok (.bipush (-3), 2) := by decide +kernel
theorem dX4_see_39 : decode cX4_see 39 = .ok (.ireturn, 1) := by decide +kernel
theorem dX4_see_40 : decode cX4_see 40 = .ok (.aload_n 0, 1) := by decide +kernel
theorem dX4_see_41 : decode cX4_see 41 = .ok (.getfield 28, 3) := by decide +kernel
theorem dX4_see_44 : decode cX4_see 44 = .ok (.iconst 2, 1) := by decide +kernel
theorem dX4_see_45 : decode cX4_see 45 = .ok (.aload_n 0, 1) := by decide +kernel
theorem dX4_see_46 : decode cX4_see 46 = .ok (.getfield 131, 3) := by decide +kernel
theorem dX4_see_49 : decode cX4_see 49 = .ok (.imul, 1) := by decide +kernel
theorem dX4_see_50 : decode cX4_see 50 = .ok (.iload_n 1, 1) := by decide +kernel
theorem dX4_see_51 : decode cX4_see 51 = .ok (.iastore, 1) := by decide +kernel
theorem dX4_see_52 : decode cX4_see 52 = .ok (.aload_n 0, 1) := by decide +kernel
theorem dX4_see_53 : decode cX4_see 53 = .ok (.getfield 28, 3) := by decide +kernel
theorem dX4_see_56 : decode cX4_see 56 = .ok (.iconst 2, 1) := by decide +kernel
theorem dX4_see_57 : decode cX4_see 57 = .ok (.aload_n 0, 1) := by decide +kernel
theorem dX4_see_58 : decode cX4_see 58 = .ok (.getfield 131, 3) := by decide +kernel
theorem dX4_see_61 : decode cX4_see 61 = .ok (.imul, 1) := by decide +kernel
theorem dX4_see_62 : decode cX4_see 62 = .ok (.iconst 1, 1) := by decide +kernel
theorem dX4_see_63 : decode cX4_see 63 = .ok (.iadd, 1) := by decide +kernel
theorem dX4_see_64 : decode cX4_see 64 = .ok (.iload_n 2, 1) := by decide +kernel
theorem dX4_see_65 : decode cX4_see 65 = .ok (.iastore, 1) := by decide +kernel
theorem dX4_see_66 : decode cX4_see 66 = .ok (.aload_n 0, 1) := by decide +kernel
theorem dX4_see_67 : decode cX4_see 67 = .ok (.dup, 1) := by decide +kernel
theorem dX4_see_68 : decode cX4_see 68 = .ok (.getfield 131, 3) := by decide +kernel
theorem dX4_see_71 : decode cX4_see 71 = .ok (.iconst 1, 1) := by decide +kernel
theorem dX4_see_72 : decode cX4_see 72 = .ok (.iadd, 1) := by decide +kernel
theorem dX4_see_73 : decode cX4_see 73 = .ok (.putfield 131, 3) := by decide +kernel
theorem dX4_see_76 : decode cX4_see 76 = .ok (.aload_n 0, 1) := by decide +kernel
theorem dX4_see_77 : decode cX4_see 77 = .ok (.getfield 131, 3) := by decide +kernel
theorem dX4_see_80 : decode cX4_see 80 = .ok (.ireturn, 1) := by decide +kernel
theorem dX4_forget_0 : decode cX4_forget 0 = .ok (.iload_n 1, 1) := by decide +kernel
theorem dX4_forget_1 : decode cX4_forget 1 = .ok (.i2l, 1) := by decide +kernel
theorem dX4_forget_2 : decode cX4_forget 2 = .ok (.lconst 0, 1) := by decide +kernel
theorem dX4_forget_3 : decode cX4_forget 3 = .ok (.aload_n 0, 1) := by decide +kernel
theorem dX4_forget_4 : decode cX4_forget 4 = .ok (.getfield 131, 3) := by decide +kernel
theorem dX4_forget_7 : decode cX4_forget 7 = .ok (.i2l, 1) := by decide +kernel
theorem dX4_forget_8 : decode cX4_forget 8 = .ok (.invokestatic 49, 3) := by decide +kernel
theorem dX4_forget_11 : decode cX4_forget 11 = .ok (.ifCond .ne 5, 3) := by decide +kernel
theorem dX4_forget_14 : decode cX4_forget 14 = .ok (.iconst (-1), 1) := by decide +kernel
theorem dX4_forget_15 : decode cX4_forget 15 = .ok (.ireturn, 1) := by decide +kernel
theorem dX4_forget_16 : decode cX4_forget 16 = .ok (.aload_n 0, 1) := by decide +kernel
theorem dX4_forget_17 : decode cX4_forget 17 = .ok (.getfield 131, 3) := by decide +kernel
theorem dX4_forget_20 : decode cX4_forget 20 = .ok (.istore_n 2, 1) := by decide +kernel
theorem dX4_forget_21 : decode cX4_forget 21 = .ok (.aload_n 0, 1) := by decide +kernel
theorem dX4_forget_22 : decode cX4_forget 22 = .ok (.iload_n 1, 1) := by decide +kernel
theorem dX4_forget_23 : decode cX4_forget 23 = .ok (.putfield 131, 3) := by decide +kernel
theorem dX4_forget_26 : decode cX4_forget 26 = .ok (.iload_n 2, 1) := by decide +kernel
theorem dX4_forget_27 : decode cX4_forget 27 = .ok (.ireturn, 1) := by decide +kernel
theorem dX4_isAsSeen_0 : decode cX4_isAsSeen 0 = .ok (.aload_n 0, 1) := by decide +kernel
theorem dX4_isAsSeen_1 : decode cX4_isAsSeen 1 = .ok (.invokevirtual 149, 3) := by decide +kernel
theorem dX4_isAsSeen_4 : decode cX4_isAsSeen 4 = .ok (.iconst 1, 1) := by decide +kernel
theorem dX4_isAsSeen_5 : decode cX4_isAsSeen 5 = .ok (.istore_n 1, 1) := by decide +kernel
theorem dX4_isAsSeen_6 : decode cX4_isAsSeen 6 = .ok (.iconst 0, 1) := by decide +kernel
theorem dX4_isAsSeen_7 : decode cX4_isAsSeen 7 = .ok (.istore_n 2, 1) := by decide +kernel
theorem dX4_isAsSeen_8 : decode cX4_isAsSeen 8 = .ok (.iload_n 2, 1) := by decide +kernel
theorem dX4_isAsSeen_9 : decode cX4_isAsSeen 9 = .ok (.aload_n 0, 1) := by decide +kernel
theorem dX4_isAsSeen_10 : decode cX4_isAsSeen 10 = .ok (.getfield 131, 3) := by decide +kernel
theorem dX4_isAsSeen_13 : decode cX4_isAsSeen 13 = .ok (.if_icmp .ge 59, 3) := by decide +kernel
theorem dX4_isAsSeen_16 : decode cX4_isAsSeen 16 = .ok (.iload_n 1, 1) := by decide +kernel
theorem dX4_isAsSeen_17 : decode cX4_isAsSeen 17 = .ok (.ifCond .eq 47, 3) := by decide +kernel
theorem dX4_isAsSeen_20 : decode cX4_isAsSeen 20 = .ok (.aload_n 0, 1) := by decide +kernel
theorem dX4_isAsSeen_21 : decode cX4_isAsSeen 21 = .ok (.aload_n 0, 1) := by decide +kernel
theorem dX4_isAsSeen_22 : decode cX4_isAsSeen 22 = .ok (.getfield 28, 3) := by decide +kernel
theorem dX4_isAsSeen_25 : decode cX4_isAsSeen 25 = .ok (.iconst 2, 1) := by decide +kernel
theorem dX4_isAsSeen_26 : decode cX4_isAsSeen 26 = .ok (.iload_n 2, 1) := by decide +kernel
theorem dX4_isAsSeen_27 : decode cX4_isAsSeen 27 = .ok (.imul, 1) := by decide +kernel
theorem dX4_isAsSeen_28 : decode cX4_isAsSeen 28 = .ok (.iaload, 1) := by decide +kernel
theorem dX4_isAsSeen_29 : decode cX4_isAsSeen 29 = .ok (.invokevirtual 173, 3) := by decide +kernel
theorem dX4_isAsSeen_32 : decode cX4_isAsSeen 32 = .ok (.ifCond .eq 32, 3) := by decide +kernel
theorem dX4_isAsSeen_35 : decode cX4_isAsSeen 35 = .ok (.aload_n 0, 1) := by decide +kernel
theorem dX4_isAsSeen_36 : decode cX4_isAsSeen 36 = .ok (.aload_n 0, 1) := by decide +kernel
theorem dX4_isAsSeen_37 : decode cX4_isAsSeen 37 = .ok (.getfield 28, 3) := by decide +kernel
theorem dX4_isAsSeen_40 : decode cX4_isAsSeen 40 = .ok (.iconst 2, 1) := by decide +kernel
theorem dX4_isAsSeen_41 : decode cX4_isAsSeen 41 = .ok (.iload_n 2, 1) := by decide +kernel
theorem dX4_isAsSeen_42 : decode cX4_isAsSeen 42 = .ok (.imul, 1) := by decide +kernel
theorem dX4_isAsSeen_43 : decode cX4_isAsSeen 43 = .ok (.iaload, 1) := by decide +kernel
theorem dX4_isAsSeen_44 : decode cX4_isAsSeen 44 = .ok (.invokevirtual 146, 3) := by decide +kernel
theorem dX4_isAsSeen_47 : decode cX4_isAsSeen 47 = .ok (.aload_n 0, 1) := by decide +kernel
theorem dX4_isAsSeen_48 : decode cX4_isAsSeen 48 = .ok (.getfield 28, 3) := by decide +kernel
theorem dX4_isAsSeen_51 : decode cX4_isAsSeen 51 = .ok (.iconst 2, 1) := by decide +kernel
theorem dX4_isAsSeen_52 : decode cX4_isAsSeen 52 = .ok (.iload_n 2, 1) := by decide +kernel
theorem dX4_isAsSeen_53 : decode cX4_isAsSeen 53 = .ok (.imul, 1) := by decide +kernel
theorem dX4_isAsSeen_54 : decode cX4_isAsSeen 54 = .ok (.iconst 1, 1) := by decide +kernel
theorem dX4_isAsSeen_55 : decode cX4_isAsSeen 55 = .ok (.iadd, 1) := by decide +kernel
theorem dX4_isAsSeen_56 : decode cX4_isAsSeen 56 = .ok (.iaload, 1) := by decide +kernel
theorem dX4_isAsSeen_57 : decode cX4_isAsSeen 57 = .ok (.if_icmp .ne 7, 3) := by decide +kernel
theorem dX4_isAsSeen_60 : decode cX4_isAsSeen 60 = .ok (.iconst 1, 1) := by decide +kernel
theorem dX4_isAsSeen_61 : decode cX4_isAsSeen 61 = .ok (.goto 4, 3) := by decide +kernel
theorem dX4_isAsSeen_64 : decode cX4_isAsSeen 64 = .ok (.iconst 0, 1) := by decide +kernel
theorem dX4_isAsSeen_65 : decode cX4_isAsSeen 65 = .ok (.istore_n 1, 1) := by decide +kernel
theorem dX4_isAsSeen_66 : decode cX4_isAsSeen 66 = .ok (.iinc 2 1, 3) := by decide +kernel
theorem dX4_isAsSeen_69 : decode cX4_isAsSeen 69 = .ok (.goto (-61), 3) := by decide +kernel
theorem dX4_isAsSeen_72 : decode cX4_isAsSeen 72 = .ok (.iload_n 1, 1) := by decide +kernel
theorem dX4_isAsSeen_73 : decode cX4_isAsSeen 73 = .ok (.ireturn, 1) := by decide +kernel
theorem dX4_leansOf_0 : decode cX4_leansOf 0 = .ok (.aload_n 0, 1) := by decide +kernel
theorem dX4_leansOf_1 : decode cX4_leansOf 1 = .ok (.getfield 7, 3) := by decide +kernel
theorem dX4_leansOf_4 : decode cX4_leansOf 4 = .ok (.iconst 4, 1) := by decide +kernel
theorem dX4_leansOf_5 : decode cX4_leansOf 5 = .ok (.iload_n 1, 1) := by decide +kernel
theorem dX4_leansOf_6 : decode cX4_leansOf 6 = .ok (.iadd, 1) := by decide +kernel
theorem dX4_leansOf_7 : decode cX4_leansOf 7 = .ok (.iaload, 1) := by decide +kernel
theorem dX4_leansOf_8 : decode cX4_leansOf 8 = .ok (.istore_n 2, 1) := by decide +kernel
theorem dX4_leansOf_9 : decode cX4_leansOf 9 = .ok (.iconst 0, 1) := by decide +kernel
theorem dX4_leansOf_10 : decode cX4_leansOf 10 = .ok (.istore_n 3, 1) := by decide +kernel
theorem dX4_leansOf_11 : decode cX4_leansOf 11 = .ok (.iconst 0, 1) := by decide +kernel
theorem dX4_leansOf_12 : decode cX4_leansOf 12 = .ok (.istore 4, 2) := by decide +kernel
theorem dX4_leansOf_14 : decode cX4_leansOf 14 = .ok (.iload 4, 2) := by decide +kernel
theorem dX4_leansOf_16 : decode cX4_leansOf 16 = .ok (.bipush 6, 2) := by decide +kernel
theorem dX4_leansOf_18 : decode cX4_leansOf 18 = .ok (.if_icmp .gt 76, 3) := by decide +kernel
theorem dX4_leansOf_21 : decode cX4_leansOf 21 = .ok (.aload_n 0, 1) := by decide +kernel
theorem dX4_leansOf_22 : decode cX4_leansOf 22 = .ok (.getfield 7, 3) := by decide +kernel
theorem dX4_leansOf_25 : decode cX4_leansOf 25 = .ok (.iconst 4, 1) := by decide +kernel
theorem dX4_leansOf_26 : decode cX4_leansOf 26 = .ok (.iload_n 1, 1) := by decide +kernel
theorem dX4_leansOf_27 : decode cX4_leansOf 27 = .ok (.iadd, 1) := by decide +kernel
theorem dX4_leansOf_28 : decode cX4_leansOf 28 = .ok (.iload 4, 2) := by decide +kernel
theorem dX4_leansOf_30 : decode cX4_leansOf 30 = .ok (.iastore, 1) := by decide +kernel
theorem dX4_leansOf_31 : decode cX4_leansOf 31 = .ok (.iload_n 3, 1) := by decide +kernel
theorem dX4_leansOf_32 : decode cX4_leansOf 32 = .ok (.aload_n 0, 1) := by decide +kernel
theorem dX4_leansOf_33 : decode cX4_leansOf 33 = .ok (.invokevirtual 212, 3) := by decide +kernel
theorem dX4_leansOf_36 : decode cX4_leansOf 36 = .ok (.ifCond .eq 10, 3) := by decide +kernel
theorem dX4_leansOf_39 : decode cX4_leansOf 39 = .ok (.iconst 1, 1) := by decide +kernel
theorem dX4_leansOf_40 : decode cX4_leansOf 40 = .ok (.iload 4, 2) := by decide +kernel
theorem dX4_leansOf_42 : decode cX4_leansOf 42 = .ok (.ishl, 1) := by decide +kernel
theorem dX4_leansOf_43 : decode cX4_leansOf 43 = .ok (.goto 4, 3) := by decide +kernel
theorem dX4_leansOf_46 : decode cX4_leansOf 46 = .ok (.iconst 0, 1) := by decide +kernel
theorem dX4_leansOf_47 : decode cX4_leansOf 47 = .ok (.ior, 1) := by decide +kernel
theorem dX4_leansOf_48 : decode cX4_leansOf 48 = .ok (.istore_n 3, 1) := by decide +kernel
theorem dX4_leansOf_49 : decode cX4_leansOf 49 = .ok (.iconst 0, 1) := by decide +kernel
theorem dX4_leansOf_50 : decode cX4_leansOf 50 = .ok (.istore 5, 2) := by decide +kernel
theorem dX4_leansOf_52 : decode cX4_leansOf 52 = .ok (.iload 5, 2) := by decide +kernel
theorem dX4_leansOf_54 : decode cX4_leansOf 54 = .ok (.aload_n 0, 1) := by decide +kernel
theorem dX4_leansOf_55 : decode cX4_leansOf 55 = .ok (.getfield 7, 3) := by decide +kernel
theorem dX4_leansOf_58 : decode cX4_leansOf 58 = .ok (.bipush 32, 2) := by decide +kernel
theorem dX4_leansOf_60 : decode cX4_leansOf 60 = .ok (.iaload, 1) := by decide +kernel
theorem dX4_leansOf_61 : decode cX4_leansOf 61 = .ok (.if_icmp .ge 27, 3) := by decide +kernel
theorem dX4_leansOf_64 : decode cX4_leansOf 64 = .ok (.aload_n 0, 1) := by decide +kernel
theorem dX4_leansOf_65 : decode cX4_leansOf 65 = .ok (.getfield 31, 3) := by decide +kernel
theorem dX4_leansOf_68 : decode cX4_leansOf 68 = .ok (.iconst 5, 1) := by decide +kernel
theorem dX4_leansOf_69 : decode cX4_leansOf 69 = .ok (.iload 4, 2) := by decide +kernel
theorem dX4_leansOf_71 : decode cX4_leansOf 71 = .ok (.imul, 1) := by decide +kernel
theorem dX4_leansOf_72 : decode cX4_leansOf 72 = .ok (.iload 5, 2) := by decide +kernel
theorem dX4_leansOf_74 : decode cX4_leansOf 74 = .ok (.iadd, 1) := by decide +kernel
theorem dX4_leansOf_75 : decode cX4_leansOf 75 = .ok (.aload_n 0, 1) := by decide +kernel
theorem dX4_leansOf_76 : decode cX4_leansOf 76 = .ok (.iload 5, 2) := by decide +kernel
theorem dX4_leansOf_78 : decode cX4_leansOf 78 = .ok (.invokevirtual 146, 3) := by decide +kernel
theorem dX4_leansOf_81 : decode cX4_leansOf 81 = .ok (.iastore, 1) := by decide +kernel
theorem dX4_leansOf_82 : decode cX4_leansOf 82 = .ok (.iinc 5 1, 3) := by decide +kernel
theorem dX4_leansOf_85 : decode cX4_leansOf 85 = .ok (.goto (-33), 3) := by decide +kernel
theorem dX4_leansOf_88 : decode cX4_leansOf 88 = .ok (.iinc 4 1, 3) := by decide +kernel
theorem dX4_leansOf_91 : decode cX4_leansOf 91 = .ok (.goto (-77), 3) := by decide +kernel
theorem dX4_leansOf_94 : decode cX4_leansOf 94 = .ok (.aload_n 0, 1) := by decide +kernel
theorem dX4_leansOf_95 : decode cX4_leansOf 95 = .ok (.getfield 7, 3) := by decide +kernel
theorem dX4_leansOf_98 : decode cX4_leansOf 98 = .ok (.iconst 4, 1) := by decide +kernel
theorem dX4_leansOf_99 : decode cX4_leansOf 99 = .ok (.iload_n 1, 1) := by decide +kernel
theorem dX4_leansOf_100 : decode cX4_leansOf 100 = .ok (.iadd, 1) := by decide +kernel
theorem dX4_leansOf_101 : decode cX4_leansOf 101 = .ok (.iload_n 2, 1) := by decide +kernel
theorem dX4_leansOf_102 : decode cX4_leansOf 102 = .ok (.iastore, 1) := by decide +kernel
theorem dX4_leansOf_103 : decode cX4_leansOf 103 = .ok (.iload_n 3, 1) := by decide +kernel
theorem dX4_leansOf_104 : decode cX4_leansOf 104 = .ok (.ireturn, 1) := by decide +kernel
theorem dX4_leans_0 : decode cX4_leans 0 = .ok (.aload_n 0, 1) := by decide +kernel
theorem dX4_leans_1 : decode cX4_leans 1 = .ok (.iload_n 1, 1) := by decide +kernel
theorem dX4_leans_2 : decode cX4_leans 2 = .ok (.invokevirtual 161, 3) := by decide +kernel
theorem dX4_leans_5 : decode cX4_leans 5 = .ok (.ifCond .eq 11, 3) := by decide +kernel
theorem dX4_leans_8 : decode cX4_leans 8 = .ok (.aload_n 0, 1) := by decide +kernel
theorem dX4_leans_9 : decode cX4_leans 9 = .ok (.iload_n 1, 1) := by decide +kernel
theorem dX4_leans_10 : decode cX4_leans 10 = .ok (.invokevirtual 216, 3) := by decide +kernel
theorem dX4_leans_13 : decode cX4_leans 13 = .ok (.goto 4, 3) := by decide +kernel
theorem dX4_leans_16 : decode cX4_leans 16 = .ok (.iconst (-1), 1) := by decide +kernel
theorem dX4_leans_17 : decode cX4_leans 17 = .ok (.ireturn, 1) := by decide +kernel
theorem dX4_kinds_0 : decode cX4_kinds 0 = .ok (.aload_n 0, 1) := by decide +kernel
theorem dX4_kinds_1 : decode cX4_kinds 1 = .ok (.iload_n 1, 1) := by decide +kernel
theorem dX4_kinds_2 : decode cX4_kinds 2 = .ok (.invokevirtual 161, 3) := by decide +kernel
theorem dX4_kinds_5 : decode cX4_kinds 5 = .ok (.ifCond .ne 5, 3) := by decide +kernel
theorem dX4_kinds_8 : decode cX4_kinds 8 = .ok (.iconst (-1), 1) := by decide +kernel
theorem dX4_kinds_9 : decode cX4_kinds 9 = .ok (.ireturn, 1) := by decide +kernel
theorem dX4_kinds_10 : decode cX4_kinds 10 = .ok (.aload_n 0, 1) := by decide +kernel
theorem dX4_kinds_11 : decode cX4_kinds 11 = .ok (.getfield 7, 3) := by decide +kernel
theorem dX4_kinds_14 : decode cX4_kinds 14 = .ok (.iload_n 1, 1) := by decide +kernel
theorem dX4_kinds_15 : decode cX4_kinds 15 = .ok (.iaload, 1) := by decide +kernel
theorem dX4_kinds_16 : decode cX4_kinds 16 = .ok (.istore_n 2, 1) := by decide +kernel
theorem dX4_kinds_17 : decode cX4_kinds 17 = .ok (.iconst 0, 1) := by decide +kernel
theorem dX4_kinds_18 : decode cX4_kinds 18 = .ok (.istore_n 3, 1) := by decide +kernel
theorem dX4_kinds_19 : decode cX4_kinds 19 = .ok (.iconst 0, 1) := by decide +kernel
theorem dX4_kinds_20 : decode cX4_kinds 20 = .ok (.istore 4, 2) := by decide +kernel
theorem dX4_kinds_22 : decode cX4_kinds 22 = .ok (.iload 4, 2) := by decide +kernel
theorem dX4_kinds_24 : decode cX4_kinds 24 = .ok (.iconst 4, 1) := by decide +kernel
theorem dX4_kinds_25 : decode cX4_kinds 25 = .ok (.if_icmp .ge 35, 3) := by decide +kernel
theorem dX4_kinds_28 : decode cX4_kinds 28 = .ok (.aload_n 0, 1) := by decide +kernel
theorem dX4_kinds_29 : decode cX4_kinds 29 = .ok (.getfield 7, 3) := by decide +kernel
theorem dX4_kinds_32 : decode cX4_kinds 32 = .ok (.iload_n 1, 1) := by decide +kernel
theorem dX4_kinds_33 : decode cX4_kinds 33 = .ok (.iload 4, 2) := by decide +kernel
theorem dX4_kinds_35 : decode cX4_kinds 35 = .ok (.iastore, 1) := by decide +kernel
theorem dX4_kinds_36 : decode cX4_kinds 36 = .ok (.iload_n 3, 1) := by decide +kernel
theorem dX4_kinds_37 : decode cX4_kinds 37 = .ok (.aload_n 0, 1) := by decide +kernel
theorem dX4_kinds_38 : decode cX4_kinds 38 = .ok (.invokevirtual 212, 3) := by decide +kernel
theorem dX4_kinds_41 : decode cX4_kinds 41 = .ok (.ifCond .eq 10, 3) := by decide +kernel
theorem dX4_kinds_44 : decode cX4_kinds 44 = .ok (.iconst 1, 1) := by decide +kernel
theorem dX4_kinds_45 : decode cX4_kinds 45 = .ok (.iload 4, 2) := by decide +kernel
theorem dX4_kinds_47 : decode cX4_kinds 47 = .ok (.ishl, 1) := by decide +kernel
theorem dX4_kinds_48 : decode cX4_kinds 48 = .ok (.goto 4, 3) := by decide +kernel
theorem dX4_kinds_51 : decode cX4_kinds 51 = .ok (.iconst 0, 1) := by decide +kernel
theorem dX4_kinds_52 : decode cX4_kinds 52 = .ok (.ior, 1) := by decide +kernel
theorem dX4_kinds_53 : decode cX4_kinds 53 = .ok (.istore_n 3, 1) := by decide +kernel
theorem dX4_kinds_54 : decode cX4_kinds 54 = .ok (.iinc 4 1, 3) := by decide +kernel
theorem dX4_kinds_57 : decode cX4_kinds 57 = .ok (.goto (-35), 3) := by decide +kernel
theorem dX4_kinds_60 : decode cX4_kinds 60 = .ok (.aload_n 0, 1) := by decide +kernel
theorem dX4_kinds_61 : decode cX4_kinds 61 = .ok (.getfield 7, 3) := by decide +kernel
theorem dX4_kinds_64 : decode cX4_kinds 64 = .ok (.iload_n 1, 1) := by decide +kernel
theorem dX4_kinds_65 : decode cX4_kinds 65 = .ok (.iload_n 2, 1) := by decide +kernel
theorem dX4_kinds_66 : decode cX4_kinds 66 = .ok (.iastore, 1) := by decide +kernel
theorem dX4_kinds_67 : decode cX4_kinds 67 = .ok (.iload_n 3, 1) := by decide +kernel
theorem dX4_kinds_68 : decode cX4_kinds 68 = .ok (.ireturn, 1) := by decide +kernel
theorem dX4_bitsOf_0 : decode cX4_bitsOf 0 = .ok (.iconst 0, 1) := by decide +kernel
theorem dX4_bitsOf_1 : decode cX4_bitsOf 1 = .ok (.istore_n 1, 1) := by decide +kernel
theorem dX4_bitsOf_2 : decode cX4_bitsOf 2 = .ok (.iconst 0, 1) := by decide +kernel
theorem dX4_bitsOf_3 : decode cX4_bitsOf 3 = .ok (.istore_n 2, 1) := by decide +kernel
theorem dX4_bitsOf_4 : decode cX4_bitsOf 4 = .ok (.iload_n 2, 1) := by decide +kernel
theorem dX4_bitsOf_5 : decode cX4_bitsOf 5 = .ok (.bipush 12, 2) := by decide +kernel
theorem dX4_bitsOf_7 : decode cX4_bitsOf 7 = .ok (.if_icmp .ge 17, 3) := by decide +kernel
theorem dX4_bitsOf_10 : decode cX4_bitsOf 10 = .ok (.iload_n 1, 1) := by decide +kernel
theorem dX4_bitsOf_11 : decode cX4_bitsOf 11 = .ok (.iload_n 0, 1) := by decide +kernel
theorem dX4_bitsOf_12 : decode cX4_bitsOf 12 = .ok (.iload_n 2, 1) := by decide +kernel
theorem dX4_bitsOf_13 : decode cX4_bitsOf 13 = .ok (.ishr, 1) := by decide +kernel
theorem dX4_bitsOf_14 : decode cX4_bitsOf 14 = .ok (.iconst 1, 1) := by decide +kernel
theorem dX4_bitsOf_15 : decode cX4_bitsOf 15 = .ok (.iand, 1) := by decide +kernel
theorem dX4_bitsOf_16 : decode cX4_bitsOf 16 = .ok (.iadd, 1) := by decide +kernel
theorem dX4_bitsOf_17 : decode cX4_bitsOf 17 = .ok (.istore_n 1, 1) := by decide +kernel
theorem dX4_bitsOf_18 : decode cX4_bitsOf 18 = .ok (.iinc 2 1, 3) := by decide +kernel
theorem dX4_bitsOf_21 : decode cX4_bitsOf 21 = .ok (.goto (-17), 3) := by decide +kernel
theorem dX4_bitsOf_24 : decode cX4_bitsOf 24 = .ok (.iload_n 1, 1) := by decide +kernel
theorem dX4_bitsOf_25 : decode cX4_bitsOf 25 = .ok (.ireturn, 1) := by decide +kernel
theorem dX4_ask_0 : decode cX4_ask 0 = .ok (.aload_n 0, 1) := by decide +kernel
theorem dX4_ask_1 : decode cX4_ask 1 = .ok (.iload_n 1, 1) := by decide +kernel
theorem dX4_ask_2 : decode cX4_ask 2 = .ok (.invokevirtual 161, 3) := by decide +kernel
theorem dX4_ask_5 : decode cX4_ask 5 = .ok (.ifCond .eq 13, 3) := by decide +kernel
theorem dX4_ask_8 : decode cX4_ask 8 = .ok (.iload_n 2, 1) := by decide +kernel
theorem dX4_ask_9 : decode cX4_ask 9 = .ok (.i2l, 1) := by decide +kernel
theorem dX4_ask_10 : decode cX4_ask 10 = .ok (.lconst 0, 1) := by decide +kernel
theorem dX4_ask_11 : decode cX4_ask 11 = .ok (.lconst 1, 1) := by decide +kernel
theorem dX4_ask_12 : decode cX4_ask 12 = .ok (.invokestatic 49, 3) := by decide +kernel
theorem dX4_ask_15 : decode cX4_ask 15 = .ok (.ifCond .ne 5, 3) := by decide +kernel
theorem dX4_ask_18 : decode cX4_ask 18 = .ok (.iconst (-1), 1) := by decide +kernel
theorem dX4_ask_19 : decode cX4_ask 19 = .ok (.ireturn, 1) := by decide +kernel
theorem dX4_ask_20 : decode cX4_ask 20 = .ok (.aload_n 0, 1) := by decide +kernel
theorem dX4_ask_21 : decode cX4_ask 21 = .ok (.iload_n 1, 1) := by decide +kernel
theorem dX4_ask_22 : decode cX4_ask 22 = .ok (.invokevirtual 216, 3) := by decide +kernel
theorem dX4_ask_25 : decode cX4_ask 25 = .ok (.istore_n 3, 1) := by decide +kernel
theorem dX4_ask_26 : decode cX4_ask 26 = .ok (.bipush (-4), 2) := by decide +kernel
theorem dX4_ask_28 : decode cX4_ask 28 = .ok (.istore 4, 2) := by decide +kernel
theorem dX4_ask_30 : decode cX4_ask 30 = .ok (.aload_n 0, 1) := by decide +kernel
theorem dX4_ask_31 : decode cX4_ask 31 = .ok (.iload_n 3, 1) := by decide +kernel
theorem dX4_ask_32 : decode cX4_ask 32 = .ok (.invokestatic 219, 3) := by decide +kernel
theorem dX4_ask_35 : decode cX4_ask 35 = .ok (.putfield 189, 3) := by decide +kernel
theorem dX4_ask_38 : decode cX4_ask 38 = .ok (.iconst 0, 1) := by decide +kernel
theorem dX4_ask_39 : decode cX4_ask 39 = .ok (.istore 5, 2) := by decide +kernel
theorem dX4_ask_41 : decode cX4_ask 41 = .ok (.iload 5, 2) := by decide +kernel
theorem dX4_ask_43 : decode cX4_ask 43 = .ok (.aload_n 0, 1) := by decide +kernel
theorem dX4_ask_44 : decode cX4_ask 44 = .ok (.getfield 7, 3) := by decide +kernel
theorem dX4_ask_47 : decode cX4_ask 47 = .ok (.bipush 32, 2) := by decide +kernel
theorem dX4_ask_49 : decode cX4_ask 49 = .ok (.iaload, 1) := by decide +kernel
theorem dX4_ask_50 : decode cX4_ask 50 = .ok (.if_icmp .ge 138, 3) := by decide +kernel
theorem dX4_ask_53 : decode cX4_ask 53 = .ok (.iconst 0, 1) := by decide +kernel
theorem dX4_ask_54 : decode cX4_ask 54 = .ok (.istore 6, 2) := by decide +kernel
theorem dX4_ask_56 : decode cX4_ask 56 = .ok (.iconst 0, 1) := by decide +kernel
theorem dX4_ask_57 : decode cX4_ask 57 = .ok (.istore 7, 2) := by decide +kernel
theorem dX4_ask_59 : decode cX4_ask 59 = .ok (.iload 7, 2) := by decide +kernel
theorem dX4_ask_61 : decode cX4_ask 61 = .ok (.bipush 6, 2) := by decide +kernel
theorem dX4_ask_63 : decode cX4_ask 63 = .ok (.if_icmp .gt 101, 3) := by decide +kernel
theorem dX4_ask_66 : decode cX4_ask 66 = .ok (.iconst 0, 1) := by decide +kernel
theorem dX4_ask_67 : decode cX4_ask 67 = .ok (.istore 8, 2) := by decide +kernel
theorem dX4_ask_69 : decode cX4_ask 69 = .ok (.iconst 0, 1) := by decide +kernel
theorem dX4_ask_70 : decode cX4_ask 70 = .ok (.istore 9, 2) := by decide +kernel
theorem dX4_ask_72 : decode cX4_ask 72 = .ok (.iload 9, 2) := by decide +kernel
theorem dX4_ask_74 : decode cX4_ask 74 = .ok (.bipush 6, 2) := by decide +kernel
theorem dX4_ask_76 : decode cX4_ask 76 = .ok (.if_icmp .gt 66, 3) := by decide +kernel
theorem dX4_ask_79 : decode cX4_ask 79 = .ok (.iload_n 3, 1) := by decide +kernel
theorem dX4_ask_80 : decode cX4_ask 80 = .ok (.iload 7, 2) := by decide +kernel
theorem dX4_ask_82 : decode cX4_ask 82 = .ok (.ishr, 1) := by decide +kernel
theorem dX4_ask_83 : decode cX4_ask 83 = .ok (.iconst 1, 1) := by decide +kernel
theorem dX4_ask_84 : decode cX4_ask 84 = .ok (.iand, 1) := by decide +kernel
theorem dX4_ask_85 : decode cX4_ask 85 = .ok (.iconst 1, 1) := by decide +kernel
theorem dX4_ask_86 : decode cX4_ask 86 = .ok (.if_icmp .ne 56, 3) := by decide +kernel
theorem dX4_ask_89 : decode cX4_ask 89 = .ok (.iload 8, 2) := by decide +kernel
theorem dX4_ask_91 : decode cX4_ask 91 = .ok (.iload_n 3, 1) := by decide +kernel
theorem dX4_ask_92 : decode cX4_ask 92 = .ok (.iload 9, 2) := by decide +kernel
theorem dX4_ask_94 : decode cX4_ask 94 = .ok (.ishr, 1) := by decide +kernel
theorem dX4_ask_95 : decode cX4_ask 95 = .ok (.iconst 1, 1) := by decide +kernel
theorem dX4_ask_96 : decode cX4_ask 96 = .ok (.iand, 1) := by decide +kernel
theorem dX4_ask_97 : decode cX4_ask 97 = .ok (.iconst 1, 1) := by decide +kernel
theorem dX4_ask_98 : decode cX4_ask 98 = .ok (.if_icmp .ne 34, 3) := by decide +kernel
theorem dX4_ask_101 : decode cX4_ask 101 = .ok (.aload_n 0, 1) := by decide +kernel
theorem dX4_ask_102 : decode cX4_ask 102 = .ok (.getfield 31, 3) := by decide +kernel
theorem dX4_ask_105 : decode cX4_ask 105 = .ok (.iconst 5, 1) := by decide +kernel
theorem dX4_ask_106 : decode cX4_ask 106 = .ok (.iload 7, 2) := by decide +kernel
theorem dX4_ask_108 : decode cX4_ask 108 = .ok (.imul, 1) := by decide +kernel
theorem dX4_ask_109 : decode cX4_ask 109 = .ok (.iload 5, 2) := by decide +kernel
theorem dX4_ask_111 : decode cX4_ask 111 = .ok (.iadd, 1) := by decide +kernel
theorem dX4_ask_112 : decode cX4_ask 112 = .ok (.iaload, 1) := by decide +kernel
theorem dX4_ask_113 : decode cX4_ask 113 = .ok (.aload_n 0, 1) := by decide +kernel
theorem dX4_ask_114 : decode cX4_ask 114 = .ok (.getfield 31, 3) := by decide +kernel
theorem dX4_ask_117 : decode cX4_ask 117 = .ok (.iconst 5, 1) := by decide +kernel
theorem dX4_ask_118 : decode cX4_ask 118 = .ok (.iload 9, 2) := by decide +kernel
theorem dX4_ask_120 : decode cX4_ask 120 = .ok (.imul, 1) := by decide +kernel
theorem dX4_ask_121 : decode cX4_ask 121 = .ok (.iload 5, 2) := by decide +kernel
theorem dX4_ask_123 : decode cX4_ask 123 = .ok (.iadd, 1) := by decide +kernel
theorem dX4_ask_124 : decode cX4_ask 124 = .ok (.iaload, 1) := by decide +kernel
theorem dX4_ask_125 : decode cX4_ask 125 = .ok (.if_icmp .ne 7, 3) := by decide +kernel
theorem dX4_ask_128 : decode cX4_ask 128 = .ok (.iconst 1, 1) := by decide +kernel
theorem dX4_ask_129 : decode cX4_ask 129 = .ok (.goto 4, 3) := by decide +kernel
theorem dX4_ask_132 : decode cX4_ask 132 = .ok (.iconst 0, 1) := by decide +kernel
theorem dX4_ask_133 : decode cX4_ask 133 = .ok (.iadd, 1) := by decide +kernel
theorem dX4_ask_134 : decode cX4_ask 134 = .ok (.istore 8, 2) := by decide +kernel
theorem dX4_ask_136 : decode cX4_ask 136 = .ok (.iinc 9 1, 3) := by decide +kernel
theorem dX4_ask_139 : decode cX4_ask 139 = .ok (.goto (-67), 3) := by decide +kernel
theorem dX4_ask_142 : decode cX4_ask 142 = .ok (.iload 8, 2) := by decide +kernel
theorem dX4_ask_144 : decode cX4_ask 144 = .ok (.iload 6, 2) := by decide +kernel
theorem dX4_ask_146 : decode cX4_ask 146 = .ok (.if_icmp .le 8, 3) := by decide +kernel
theorem dX4_ask_149 : decode cX4_ask 149 = .ok (.iload 8, 2) := by decide +kernel
theorem dX4_ask_151 : decode cX4_ask 151 = .ok (.goto 5, 3) := by decide +kernel
theorem dX4_ask_154 : decode cX4_ask 154 = .ok (.iload 6, 2) := by decide +kernel
theorem dX4_ask_156 : decode cX4_ask 156 = .ok (.istore 6, 2) := by decide +kernel
theorem dX4_ask_158 : decode cX4_ask 158 = .ok (.iinc 7 1, 3) := by decide +kernel
theorem dX4_ask_161 : decode cX4_ask 161 = .ok (.goto (-102), 3) := by decide +kernel
theorem dX4_ask_164 : decode cX4_ask 164 = .ok (.aload_n 0, 1) := by decide +kernel
theorem dX4_ask_165 : decode cX4_ask 165 = .ok (.iload 6, 2) := by decide +kernel
theorem dX4_ask_167 : decode cX4_ask 167 = .ok (.invokevirtual 193, 3) := by decide +kernel
theorem dX4_ask_170 : decode cX4_ask 170 = .ok (.ifCond .eq 8, 3) := by decide +kernel
theorem dX4_ask_173 : decode cX4_ask 173 = .ok (.iload 5, 2) := by decide +kernel
theorem dX4_ask_175 : decode cX4_ask 175 = .ok (.goto 5, 3) := by decide +kernel
theorem dX4_ask_178 : decode cX4_ask 178 = .ok (.iload 4, 2) := by decide +kernel
theorem dX4_ask_180 : decode cX4_ask 180 = .ok (.istore 4, 2) := by decide +kernel
theorem dX4_ask_182 : decode cX4_ask 182 = .ok (.iinc 5 1, 3) := by decide +kernel
theorem dX4_ask_185 : decode cX4_ask 185 = .ok (.goto (-144), 3) := by decide +kernel
theorem dX4_ask_188 : decode cX4_ask 188 = .ok (.iload 4, 2) := by decide +kernel
theorem dX4_ask_190 : decode cX4_ask 190 = .ok (.bipush (-4), 2) := by decide +kernel
theorem dX4_ask_192 : decode cX4_ask 192 = .ok (.if_icmp .eq 7, 3) := by decide +kernel
theorem dX4_ask_195 : decode cX4_ask 195 = .ok (.iload_n 2, 1) := by decide +kernel
theorem dX4_ask_196 : decode cX4_ask 196 = .ok (.ifCond .ne 8, 3) := by decide +kernel
theorem dX4_ask_199 : decode cX4_ask 199 = .ok (.iload 4, 2) := by decide +kernel
theorem dX4_ask_201 : decode cX4_ask 201 = .ok (.goto 7, 3) := by decide +kernel
theorem dX4_ask_204 : decode cX4_ask 204 = .ok (.aload_n 0, 1) := by decide +kernel
theorem dX4_ask_205 : decode cX4_ask 205 = .ok (.getfield 189, 3) := by decide +kernel
theorem dX4_ask_208 : decode cX4_ask 208 = .ok (.ireturn, 1) := by decide +kernel
theorem dX4_draws_0 : decode cX4_draws 0 = .ok (.aload_n 0, 1) := by decide +kernel
theorem dX4_draws_1 : decode cX4_draws 1 = .ok (.aload_n 0, 1) := by decide +kernel
theorem dX4_draws_2 : decode cX4_draws 2 = .ok (.getfield 222, 3) := by decide +kernel
theorem dX4_draws_5 : decode cX4_draws 5 = .ok (.ldc 225, 2) := by decide +kernel
theorem dX4_draws_7 : decode cX4_draws 7 = .ok (.imul, 1) := by decide +kernel
theorem dX4_draws_8 : decode cX4_draws 8 = .ok (.sipush 12345, 3) := by decide +kernel
theorem dX4_draws_11 : decode cX4_draws 11 = .ok (.iadd, 1) := by decide +kernel
theorem dX4_draws_12 : decode cX4_draws 12 = .ok (.putfield 222, 3) := by decide +kernel
theorem dX4_draws_15 : decode cX4_draws 15 = .ok (.aload_n 0, 1) := by decide +kernel
theorem dX4_draws_16 : decode cX4_draws 16 = .ok (.getfield 222, 3) := by decide +kernel
theorem dX4_draws_19 : decode cX4_draws 19 = .ok (.bipush 16, 2) := by decide +kernel
theorem dX4_draws_21 : decode cX4_draws 21 = .ok (.ishr, 1) := by decide +kernel
theorem dX4_draws_22 : decode cX4_draws 22 = .ok (.sipush 32767, 3) := by decide +kernel
theorem dX4_draws_25 : decode cX4_draws 25 = .ok (.iand, 1) := by decide +kernel
theorem dX4_draws_26 : decode cX4_draws 26 = .ok (.iload_n 1, 1) := by decide +kernel
theorem dX4_draws_27 : decode cX4_draws 27 = .ok (.irem, 1) := by decide +kernel
theorem dX4_draws_28 : decode cX4_draws 28 = .ok (.ireturn, 1) := by decide +kernel
theorem dX4_drift_0 : decode cX4_drift 0 = .ok (.iload_n 2, 1) := by decide +kernel
theorem dX4_drift_1 : decode cX4_drift 1 = .ok (.i2l, 1) := by decide +kernel
theorem dX4_drift_2 : decode cX4_drift 2 = .ok (.lconst 1, 1) := by decide +kernel
theorem dX4_drift_3 : decode cX4_drift 3 = .ok (.ldc2_w 226, 3) := by decide +kernel
theorem dX4_drift_6 : decode cX4_drift 6 = .ok (.invokestatic 49, 3) := by decide +kernel
theorem dX4_drift_9 : decode cX4_drift 9 = .ok (.ifCond .eq 13, 3) := by decide +kernel
theorem dX4_drift_12 : decode cX4_drift 12 = .ok (.iload_n 3, 1) := by decide +kernel
theorem dX4_drift_13 : decode cX4_drift 13 = .ok (.i2l, 1) := by decide +kernel
theorem dX4_drift_14 : decode cX4_drift 14 = .ok (.lconst 0, 1) := by decide +kernel
theorem dX4_drift_15 : decode cX4_drift 15 = .ok (.lconst 1, 1) := by decide +kernel
theorem dX4_drift_16 : decode cX4_drift 16 = .ok (.invokestatic 49, 3) := by decide +kernel
theorem dX4_drift_19 : decode cX4_drift 19 = .ok (.ifCond .ne 5, 3) := by decide +kernel
theorem dX4_drift_22 : decode cX4_drift 22 = .ok (.iconst (-1), 1) := by decide +kernel
theorem dX4_drift_23 : decode cX4_drift 23 = .ok (.ireturn, 1) := by decide +kernel
theorem dX4_drift_24 : decode cX4_drift 24 = .ok (.aload_n 0, 1) := by decide +kernel
theorem dX4_drift_25 : decode cX4_drift 25 = .ok (.getfield 128, 3) := by decide +kernel
theorem dX4_drift_28 : decode cX4_drift 28 = .ok (.ifCond .ne 6, 3) := by decide +kernel
theorem dX4_drift_31 : decode cX4_drift 31 = .ok (.bipush (-2), 2) := by decide +kernel
theorem dX4_drift_33 : decode cX4_drift 33 = .ok (.ireturn, 1) := by decide +kernel
theorem dX4_drift_34 : decode cX4_drift 34 = .ok (.aload_n 0, 1) := by decide +kernel
theorem dX4_drift_35 : decode cX4_drift 35 = .ok (.iconst 0, 1) := by decide +kernel
theorem dX4_drift_36 : decode cX4_drift 36 = .ok (.bipush 99, 2) := by decide +kernel
theorem dX4_drift_38 : decode cX4_drift 38 = .ok (.invokevirtual 196, 3) := by decide +kernel
theorem dX4_drift_41 : decode cX4_drift 41 = .ok (.aload_n 0, 1) := by decide +kernel
theorem dX4_drift_42 : decode cX4_drift 42 = .ok (.iload_n 1, 1) := by decide +kernel
theorem dX4_drift_43 : decode cX4_drift 43 = .ok (.putfield 222, 3) := by decide +kernel
theorem dX4_drift_46 : decode cX4_drift 46 = .ok (.iconst 0, 1) := by decide +kernel
theorem dX4_drift_47 : decode cX4_drift 47 = .ok (.istore 4, 2) := by decide +kernel
theorem dX4_drift_49 : decode cX4_drift 49 = .ok (.iconst 0, 1) := by decide +kernel
theorem dX4_drift_50 : decode cX4_drift 50 = .ok (.istore 5, 2) := by decide +kernel
theorem dX4_drift_52 : decode cX4_drift 52 = .ok (.iload 5, 2) := by decide +kernel
theorem dX4_drift_54 : decode cX4_drift 54 = .ok (.iload_n 2, 1) := by decide +kernel
theorem dX4_drift_55 : decode cX4_drift 55 = .ok (.if_icmp .ge 65, 3) := by decide +kernel
theorem dX4_drift_58 : decode cX4_drift 58 = .ok (.aload_n 0, 1) := by decide +kernel
theorem dX4_drift_59 : decode cX4_drift 59 = .ok (.bipush 12, 2) := by decide +kernel
theorem dX4_drift_61 : decode cX4_drift 61 = .ok (.invokevirtual 228, 3) := by decide +kernel
theorem dX4_drift_64 : decode cX4_drift 64 = .ok (.istore 6, 2) := by decide +kernel
theorem dX4_drift_66 : decode cX4_drift 66 = .ok (.aload_n 0, 1) := by decide +kernel
theorem dX4_drift_67 : decode cX4_drift 67 = .ok (.aload_n 0, 1) := by decide +kernel
theorem dX4_drift_68 : decode cX4_drift 68 = .ok (.getfield 128, 3) := by decide +kernel
theorem dX4_drift_71 : decode cX4_drift 71 = .ok (.iconst 1, 1) := by decide +kernel
theorem dX4_drift_72 : decode cX4_drift 72 = .ok (.iadd, 1) := by decide +kernel
theorem dX4_drift_73 : decode cX4_drift 73 = .ok (.invokevirtual 228, 3) := by decide +kernel
theorem dX4_drift_76 : decode cX4_drift 76 = .ok (.istore 7, 2) := by decide +kernel
theorem dX4_drift_78 : decode cX4_drift 78 = .ok (.aload_n 0, 1) := by decide +kernel
theorem dX4_drift_79 : decode cX4_drift 79 = .ok (.getfield 7, 3) := by decide +kernel
theorem dX4_drift_82 : decode cX4_drift 82 = .ok (.bipush 8, 2) := by decide +kernel
theorem dX4_drift_84 : decode cX4_drift 84 = .ok (.iload 6, 2) := by decide +kernel
theorem dX4_drift_86 : decode cX4_drift 86 = .ok (.iadd, 1) := by decide +kernel
theorem dX4_drift_87 : decode cX4_drift 87 = .ok (.iload 7, 2) := by decide +kernel
theorem dX4_drift_89 : decode cX4_drift 89 = .ok (.aload_n 0, 1) := by decide +kernel
theorem dX4_drift_90 : decode cX4_drift 90 = .ok (.getfield 128, 3) := by decide +kernel
theorem dX4_drift_93 : decode cX4_drift 93 = .ok (.if_icmp .ne 7, 3) := by decide +kernel
theorem dX4_drift_96 : decode cX4_drift 96 = .ok (.iconst 0, 1) := by decide +kernel
theorem dX4_drift_97 : decode cX4_drift 97 = .ok (.goto 7, 3) := by decide +kernel
theorem dX4_drift_100 : decode cX4_drift 100 = .ok (.iload 7, 2) := by decide +kernel
theorem dX4_drift_102 : decode cX4_drift 102 = .ok (.iconst 1, 1) := by decide +kernel
theorem dX4_drift_103 : decode cX4_drift 103 = .ok (.iadd, 1) := by decide +kernel
theorem dX4_drift_104 : decode cX4_drift 104 = .ok (.iastore, 1) := by decide +kernel
theorem dX4_drift_105 : decode cX4_drift 105 = .ok (.iload 4, 2) := by decide +kernel
theorem dX4_drift_107 : decode cX4_drift 107 = .ok (.aload_n 0, 1) := by decide +kernel
theorem dX4_drift_108 : decode cX4_drift 108 = .ok (.invokevirtual 158, 3) := by decide +kernel
theorem dX4_drift_111 : decode cX4_drift 111 = .ok (.iadd, 1) := by decide +kernel
theorem dX4_drift_112 : decode cX4_drift 112 = .ok (.istore 4, 2) := by decide +kernel
theorem dX4_drift_114 : decode cX4_drift 114 = .ok (.iinc 5 1, 3) := by decide +kernel
theorem dX4_drift_117 : decode cX4_drift 117 = .ok (.goto (-65), 3) := by decide +kernel
theorem dX4_drift_120 : decode cX4_drift 120 = .ok (.aload_n 0, 1) := by decide +kernel
theorem dX4_drift_121 : decode cX4_drift 121 = .ok (.bipush (-4), 2) := by decide +kernel
theorem dX4_drift_123 : decode cX4_drift 123 = .ok (.invokevirtual 155, 3) := by decide +kernel
theorem dX4_drift_126 : decode cX4_drift 126 = .ok (.istore 5, 2) := by decide +kernel
theorem dX4_drift_128 : decode cX4_drift 128 = .ok (.aload_n 0, 1) := by decide +kernel
theorem dX4_drift_129 : decode cX4_drift 129 = .ok (.bipush 99, 2) := by decide +kernel
theorem dX4_drift_131 : decode cX4_drift 131 = .ok (.iconst 0, 1) := by decide +kernel
theorem dX4_drift_132 : decode cX4_drift 132 = .ok (.invokevirtual 196, 3) := by decide +kernel
theorem dX4_drift_135 : decode cX4_drift 135 = .ok (.iload_n 3, 1) := by decide +kernel
theorem dX4_drift_136 : decode cX4_drift 136 = .ok (.ifCond .ne 8, 3) := by decide +kernel
theorem dX4_drift_139 : decode cX4_drift 139 = .ok (.iload 4, 2) := by decide +kernel
theorem dX4_drift_141 : decode cX4_drift 141 = .ok (.goto 5, 3) := by decide +kernel
theorem dX4_drift_144 : decode cX4_drift 144 = .ok (.iload 5, 2) := by decide +kernel
theorem dX4_drift_146 : decode cX4_drift 146 = .ok (.ireturn, 1) := by decide +kernel
theorem dX4_keep_0 : decode cX4_keep 0 = .ok (.iload_n 1, 1) := by decide +kernel
theorem dX4_keep_1 : decode cX4_keep 1 = .ok (.i2l, 1) := by decide +kernel
theorem dX4_keep_2 : decode cX4_keep 2 = .ok (.lconst 0, 1) := by decide +kernel
theorem dX4_keep_3 : decode cX4_keep 3 = .ok (.lconst 1, 1) := by decide +kernel
theorem dX4_keep_4 : decode cX4_keep 4 = .ok (.invokestatic 49, 3) := by decide +kernel
theorem dX4_keep_7 : decode cX4_keep 7 = .ok (.ifCond .ne 5, 3) := by decide +kernel
theorem dX4_keep_10 : decode cX4_keep 10 = .ok (.iconst (-1), 1) := by decide +kernel
theorem dX4_keep_11 : decode cX4_keep 11 = .ok (.ireturn, 1) := by decide +kernel
theorem dX4_keep_12 : decode cX4_keep 12 = .ok (.aload_n 0, 1) := by decide +kernel
theorem dX4_keep_13 : decode cX4_keep 13 = .ok (.iconst 0, 1) := by decide +kernel
theorem dX4_keep_14 : decode cX4_keep 14 = .ok (.bipush 33, 2) := by decide +kernel
theorem dX4_keep_16 : decode cX4_keep 16 = .ok (.iload_n 1, 1) := by decide +kernel
theorem dX4_keep_17 : decode cX4_keep 17 = .ok (.iconst 1, 1) := by decide +kernel
theorem dX4_keep_18 : decode cX4_keep 18 = .ok (.iadd, 1) := by decide +kernel
theorem dX4_keep_19 : decode cX4_keep 19 = .ok (.imul, 1) := by decide +kernel
theorem dX4_keep_20 : decode cX4_keep 20 = .ok (.invokevirtual 196, 3) := by decide +kernel
theorem dX4_keep_23 : decode cX4_keep 23 = .ok (.aload_n 0, 1) := by decide +kernel
theorem dX4_keep_24 : decode cX4_keep 24 = .ok (.getfield 34, 3) := by decide +kernel
theorem dX4_keep_27 : decode cX4_keep 27 = .ok (.iload_n 1, 1) := by decide +kernel
theorem dX4_keep_28 : decode cX4_keep 28 = .ok (.baload, 1) := by decide +kernel
theorem dX4_keep_29 : decode cX4_keep 29 = .ok (.ifCond .eq 7, 3) := by decide +kernel
theorem dX4_keep_32 : decode cX4_keep 32 = .ok (.iconst 1, 1) := by decide +kernel
theorem dX4_keep_33 : decode cX4_keep 33 = .ok (.goto 4, 3) := by decide +kernel
theorem dX4_keep_36 : decode cX4_keep 36 = .ok (.iconst 0, 1) := by decide +kernel
theorem dX4_keep_37 : decode cX4_keep 37 = .ok (.istore_n 2, 1) := by decide +kernel
theorem dX4_keep_38 : decode cX4_keep 38 = .ok (.aload_n 0, 1) := by decide +kernel
theorem dX4_keep_39 : decode cX4_keep 39 = .ok (.getfield 34, 3) := by decide +kernel
theorem dX4_keep_42 : decode cX4_keep 42 = .ok (.iload_n 1, 1) := by decide +kernel
theorem dX4_keep_43 : decode cX4_keep 43 = .ok (.iconst 1, 1) := by decide +kernel
theorem dX4_keep_44 : decode cX4_keep 44 = .ok (.bastore, 1) := by decide +kernel
theorem dX4_keep_45 : decode cX4_keep 45 = .ok (.iload_n 2, 1) := by decide +kernel
theorem dX4_keep_46 : decode cX4_keep 46 = .ok (.ireturn, 1) := by decide +kernel
theorem dX4_back_0 : decode cX4_back 0 = .ok (.iload_n 1, 1) := by decide +kernel
theorem dX4_back_1 : decode cX4_back 1 = .ok (.i2l, 1) := by decide +kernel
theorem dX4_back_2 : decode cX4_back 2 = .ok (.lconst 0, 1) := by decide +kernel
theorem dX4_back_3 : decode cX4_back 3 = .ok (.lconst 1, 1) := by decide +kernel
theorem dX4_back_4 : decode cX4_back 4 = .ok (.invokestatic 49, 3) := by decide +kernel
theorem dX4_back_7 : decode cX4_back 7 = .ok (.ifCond .ne 5, 3) := by decide +kernel
theorem dX4_back_10 : decode cX4_back 10 = .ok (.iconst (-1), 1) := by decide +kernel
theorem dX4_back_11 : decode cX4_back 11 = .ok (.ireturn, 1) := by decide +kernel
theorem dX4_back_12 : decode cX4_back 12 = .ok (.aload_n 0, 1) := by decide +kernel
theorem dX4_back_13 : decode cX4_back 13 = .ok (.getfield 34, 3) := by decide +kernel
theorem dX4_back_16 : decode cX4_back 16 = .ok (.iload_n 1, 1) := by decide +kernel
theorem dX4_back_17 : decode cX4_back 17 = .ok (.baload, 1) := by decide +kernel
theorem dX4_back_18 : decode cX4_back 18 = .ok (.ifCond .ne 6, 3) := by decide +kernel
theorem dX4_back_21 : decode cX4_back 21 = .ok (.bipush (-2), 2) := by decide +kernel
theorem dX4_back_23 : decode cX4_back 23 = .ok (.ireturn, 1) := by decide +kernel
theorem dX4_back_24 : decode cX4_back 24 = .ok (.aload_n 0, 1) := by decide +kernel
theorem dX4_back_25 : decode cX4_back 25 = .ok (.bipush 33, 2) := by decide +kernel
theorem dX4_back_27 : decode cX4_back 27 = .ok (.iload_n 1, 1) := by decide +kernel
theorem dX4_back_28 : decode cX4_back 28 = .ok (.iconst 1, 1) := by decide +kernel
theorem dX4_back_29 : decode cX4_back 29 = .ok (.iadd, 1) := by decide +kernel
theorem dX4_back_30 : decode cX4_back 30 = .ok (.imul, 1) := by decide +kernel
theorem dX4_back_31 : decode cX4_back 31 = .ok (.iconst 0, 1) := by decide +kernel
theorem dX4_back_32 : decode cX4_back 32 = .ok (.invokevirtual 196, 3) := by decide +kernel
theorem dX4_back_35 : decode cX4_back 35 = .ok (.aload_n 0, 1) := by decide +kernel
theorem dX4_back_36 : decode cX4_back 36 = .ok (.invokevirtual 158, 3) := by decide +kernel
theorem dX4_back_39 : decode cX4_back 39 = .ok (.ireturn, 1) := by decide +kernel
theorem dX4_sheet_0 : decode cX4_sheet 0 = .ok (.iload_n 1, 1) := by decide +kernel
theorem dX4_sheet_1 : decode cX4_sheet 1 = .ok (.i2l, 1) := by decide +kernel
theorem dX4_sheet_2 : decode cX4_sheet 2 = .ok (.lconst 0, 1) := by decide +kernel
theorem dX4_sheet_3 : decode cX4_sheet 3 = .ok (.ldc2_w 165, 3) := by decide +kernel
theorem dX4_sheet_6 : decode cX4_sheet 6 = .ok (.invokestatic 49, 3) := by decide +kernel
theorem dX4_sheet_9 : decode cX4_sheet 9 = .ok (.ifCond .eq 21, 3) := by decide +kernel
theorem dX4_sheet_12 : decode cX4_sheet 12 = .ok (.iload_n 2, 1) := by decide +kernel
theorem dX4_sheet_13 : decode cX4_sheet 13 = .ok (.i2l, 1) := by decide +kernel
theorem dX4_sheet_14 : decode cX4_sheet 14 = .ok (.lconst 0, 1) := by decide +kernel
theorem dX4_sheet_15 : decode cX4_sheet 15 = .ok (.ldc2_w 231, 3) := by decide +kernel
theorem dX4_sheet_18 : decode cX4_sheet 18 = .ok (.invokestatic 49, 3) := by decide +kernel
theorem dX4_sheet_21 : decode cX4_sheet 21 = .ok (.ifCond .eq 9, 3) := by decide +kernel
theorem dX4_sheet_24 : decode cX4_sheet 24 = .ok (.iload_n 3, 1) := by decide +kernel
theorem dX4_sheet_25 : decode cX4_sheet 25 = .ok (.bipush 40, 2) := by decide +kernel
theorem dX4_sheet_27 : decode cX4_sheet 27 = .ok (.if_icmp .le 5, 3) := by decide +kernel
theorem dX4_sheet_30 : decode cX4_sheet 30 = .ok (.iconst (-1), 1) := by decide +kernel
theorem dX4_sheet_31 : decode cX4_sheet 31 = .ok (.ireturn, 1) := by decide +kernel
theorem dX4_sheet_32 : decode cX4_sheet 32 = .ok (.iload_n 3, 1) := by decide +kernel
theorem dX4_sheet_33 : decode cX4_sheet 33 = .ok (.ifCond .ge 6, 3) := by decide +kernel
theorem dX4_sheet_36 : decode cX4_sheet 36 = .ok (.bipush (-14), 2) := by decide +kernel
theorem dX4_sheet_38 : decode cX4_sheet 38 = .ok (.ireturn, 1) := by decide +kernel
theorem dX4_sheet_39 : decode cX4_sheet 39 = .ok (.aload_n 0, 1) := by decide +kernel
theorem dX4_sheet_40 : decode cX4_sheet 40 = .ok (.getfield 38, 3) := by decide +kernel
theorem dX4_sheet_43 : decode cX4_sheet 43 = .ok (.iload_n 1, 1) := by decide +kernel
theorem dX4_sheet_44 : decode cX4_sheet 44 = .ok (.iload_n 2, 1) := by decide +kernel
theorem dX4_sheet_45 : decode cX4_sheet 45 = .ok (.iastore, 1) := by decide +kernel
theorem dX4_sheet_46 : decode cX4_sheet 46 = .ok (.aload_n 0, 1) := by decide +kernel
theorem dX4_sheet_47 : decode cX4_sheet 47 = .ok (.getfield 41, 3) := by decide +kernel
theorem dX4_sheet_50 : decode cX4_sheet 50 = .ok (.iload_n 1, 1) := by decide +kernel
theorem dX4_sheet_51 : decode cX4_sheet 51 = .ok (.iload_n 3, 1) := by decide +kernel
theorem dX4_sheet_52 : decode cX4_sheet 52 = .ok (.iastore, 1) := by decide +kernel
theorem dX4_sheet_53 : decode cX4_sheet 53 = .ok (.iconst 0, 1) := by decide +kernel
theorem dX4_sheet_54 : decode cX4_sheet 54 = .ok (.istore 4, 2) := by decide +kernel
theorem dX4_sheet_56 : decode cX4_sheet 56 = .ok (.iload 4, 2) := by decide +kernel
theorem dX4_sheet_58 : decode cX4_sheet 58 = .ok (.bipush 40, 2) := by decide +kernel
theorem dX4_sheet_60 : decode cX4_sheet 60 = .ok (.if_icmp .ge 22, 3) := by decide +kernel
theorem dX4_sheet_63 : decode cX4_sheet 63 = .ok (.aload_n 0, 1) := by decide +kernel
theorem dX4_sheet_64 : decode cX4_sheet 64 = .ok (.getfield 44, 3) := by decide +kernel
theorem dX4_sheet_67 : decode cX4_sheet 67 = .ok (.bipush 40, 2) := by decide +kernel
theorem dX4_sheet_69 : decode cX4_sheet 69 = .ok (.iload_n 1, 1) := by decide +kernel
theorem dX4_sheet_70 : decode cX4_sheet 70 = .ok (.imul, 1) := by decide +kernel
theorem dX4_sheet_71 : decode cX4_sheet 71 = .ok (.iload 4, 2) := by decide +kernel
theorem dX4_sheet_73 : decode cX4_sheet 73 = .ok (.iadd, 1) := by decide +kernel
theorem dX4_sheet_74 : decode cX4_sheet 74 = .ok (.iconst 0, 1) := by decide +kernel
theorem dX4_sheet_75 : decode cX4_sheet 75 = .ok (.iastore, 1) := by decide +kernel
theorem dX4_sheet_76 : decode cX4_sheet 76 = .ok (.iinc 4 1, 3) := by decide +kernel
theorem dX4_sheet_79 : decode cX4_sheet 79 = .ok (.goto (-23), 3) := by decide +kernel
theorem dX4_sheet_82 : decode cX4_sheet 82 = .ok (.iconst 1, 1) := by decide +kernel
theorem dX4_sheet_83 : decode cX4_sheet 83 = .ok (.ireturn, 1) := by decide +kernel
theorem dX4_lay_0 : decode cX4_lay 0 = .ok (.iload_n 1, 1) := by decide +kernel
theorem dX4_lay_1 : decode cX4_lay 1 = .ok (.i2l, 1) := by decide +kernel
theorem dX4_lay_2 : decode cX4_lay 2 = .ok (.lconst 0, 1) := by decide +kernel
theorem dX4_lay_3 : decode cX4_lay 3 = .ok (.ldc2_w 165, 3) := by decide +kernel
theorem dX4_lay_6 : decode cX4_lay 6 = .ok (.invokestatic 49, 3) := by decide +kernel
theorem dX4_lay_9 : decode cX4_lay 9 = .ok (.ifCond .ne 5, 3) := by decide +kernel
theorem dX4_lay_12 : decode cX4_lay 12 = .ok (.iconst (-1), 1) := by decide +kernel
theorem dX4_lay_13 : decode cX4_lay 13 = .ok (.ireturn, 1) := by decide +kernel
theorem dX4_lay_14 : decode cX4_lay 14 = .ok (.aload_n 0, 1) := by decide +kernel
theorem dX4_lay_15 : decode cX4_lay 15 = .ok (.getfield 38, 3) := by decide +kernel
theorem dX4_lay_18 : decode cX4_lay 18 = .ok (.iload_n 1, 1) := by decide +kernel
theorem dX4_lay_19 : decode cX4_lay 19 = .ok (.iaload, 1) := by decide +kernel
theorem dX4_lay_20 : decode cX4_lay 20 = .ok (.bipush (-4), 2) := by decide +kernel
theorem dX4_lay_22 : decode cX4_lay 22 = .ok (.if_icmp .ne 6, 3) := by decide +kernel
theorem dX4_lay_25 : decode cX4_lay 25 = .ok (.bipush (-11), 2) := by decide +kernel
theorem dX4_lay_27 : decode cX4_lay 27 = .ok (.ireturn, 1) := by decide +kernel
theorem dX4_lay_28 : decode cX4_lay 28 = .ok (.iload_n 2, 1) := by decide +kernel
theorem dX4_lay_29 : decode cX4_lay 29 = .ok (.i2l, 1) := by decide +kernel
theorem dX4_lay_30 : decode cX4_lay 30 = .ok (.lconst 0, 1) := by decide +kernel
theorem dX4_lay_31 : decode cX4_lay 31 = .ok (.aload_n 0, 1) := by decide +kernel
theorem dX4_lay_32 : decode cX4_lay 32 = .ok (.getfield 41, 3) := by decide +kernel
theorem dX4_lay_35 : decode cX4_lay 35 = .ok (.iload_n 1, 1) := by decide +kernel
theorem dX4_lay_36 : decode cX4_lay 36 = .ok (.iaload, 1) := by decide +kernel
theorem dX4_lay_37 : decode cX4_lay 37 = .ok (.iconst 1, 1) := by decide +kernel
theorem dX4_lay_38 : decode cX4_lay 38 = .ok (.isub, 1) := by decide +kernel
theorem dX4_lay_39 : decode cX4_lay 39 = .ok (.i2l, 1) := by decide +kernel
theorem dX4_lay_40 : decode cX4_lay 40 = .ok (.invokestatic 49, 3) := by decide +kernel
theorem dX4_lay_43 : decode cX4_lay 43 = .ok (.ifCond .ne 6, 3) := by decide +kernel
theorem dX4_lay_46 : decode cX4_lay 46 = .ok (.bipush (-12), 2) := by decide +kernel
theorem dX4_lay_48 : decode cX4_lay 48 = .ok (.ireturn, 1) := by decide +kernel
theorem dX4_lay_49 : decode cX4_lay 49 = .ok (.aload_n 0, 1) := by decide +kernel
theorem dX4_lay_50 : decode cX4_lay 50 = .ok (.getfield 44, 3) := by decide +kernel
theorem dX4_lay_53 : decode cX4_lay 53 = .ok (.bipush 40, 2) := by decide +kernel
theorem dX4_lay_55 : decode cX4_lay 55 = .ok (.iload_n 1, 1) := by decide +kernel
theorem dX4_lay_56 : decode cX4_lay 56 = .ok (.imul, 1) := by decide +kernel
theorem dX4_lay_57 : decode cX4_lay 57 = .ok (.iload_n 2, 1) := by decide +kernel
theorem dX4_lay_58 : decode cX4_lay 58 = .ok (.iadd, 1) := by decide +kernel
theorem dX4_lay_59 : decode cX4_lay 59 = .ok (.aload_n 0, 1) := by decide +kernel
theorem dX4_lay_60 : decode cX4_lay 60 = .ok (.getfield 38, 3) := by decide +kernel
theorem dX4_lay_63 : decode cX4_lay 63 = .ok (.iload_n 1, 1) := by decide +kernel
theorem dX4_lay_64 : decode cX4_lay 64 = .ok (.iaload, 1) := by decide +kernel
theorem dX4_lay_65 : decode cX4_lay 65 = .ok (.ifCond .ne 13, 3) := by decide +kernel
theorem dX4_lay_68 : decode cX4_lay 68 = .ok (.iload_n 3, 1) := by decide +kernel
theorem dX4_lay_69 : decode cX4_lay 69 = .ok (.bipush 24, 2) := by decide +kernel
theorem dX4_lay_71 : decode cX4_lay 71 = .ok (.ishl, 1) := by decide +kernel
theorem dX4_lay_72 : decode cX4_lay 72 = .ok (.bipush 24, 2) := by decide +kernel
theorem dX4_lay_74 : decode cX4_lay 74 = .ok (.ishr, 1) := by decide +kernel
theorem dX4_lay_75 : decode cX4_lay 75 = .ok (.goto 24, 3) := by decide +kernel
theorem dX4_lay_78 : decode cX4_lay 78 = .ok (.aload_n 0, 1) := by decide +kernel
theorem dX4_lay_79 : decode cX4_lay 79 = .ok (.getfield 38, 3) := by decide +kernel
theorem dX4_lay_82 : decode cX4_lay 82 = .ok (.iload_n 1, 1) := by decide +kernel
theorem dX4_lay_83 : decode cX4_lay 83 = .ok (.iaload, 1) := by decide +kernel
theorem dX4_lay_84 : decode cX4_lay 84 = .ok (.iconst 1, 1) := by decide +kernel
theorem dX4_lay_85 : decode cX4_lay 85 = .ok (.if_icmp .ne 13, 3) := by decide +kernel
theorem dX4_lay_88 : decode cX4_lay 88 = .ok (.iload_n 3, 1) := by decide +kernel
theorem dX4_lay_89 : decode cX4_lay 89 = .ok (.bipush 16, 2) := by decide +kernel
theorem dX4_lay_91 : decode cX4_lay 91 = .ok (.ishl, 1) := by decide +kernel
theorem dX4_lay_92 : decode cX4_lay 92 = .ok (.bipush 16, 2) := by decide +kernel
theorem dX4_lay_94 : decode cX4_lay 94 = .ok (.ishr, 1) := by decide +kernel
theorem dX4_lay_95 : decode cX4_lay 95 = .ok (.goto 4, 3) := by decide +kernel
theorem dX4_lay_98 : decode cX4_lay 98 = .ok (.iload_n 3, 1) := by decide +kernel
theorem dX4_lay_99 : decode cX4_lay 99 = .ok (.iastore, 1) := by decide +kernel
theorem dX4_lay_100 : decode cX4_lay 100 = .ok (.iconst 1, 1) := by decide +kernel
theorem dX4_lay_101 : decode cX4_lay 101 = .ok (.ireturn, 1) := by decide +kernel
theorem dX4_read_0 : decode cX4_read 0 = .ok (.iload_n 1, 1) := by decide +kernel
theorem dX4_read_1 : decode cX4_read 1 = .ok (.i2l, 1) := by decide +kernel
theorem dX4_read_2 : decode cX4_read 2 = .ok (.lconst 0, 1) := by decide +kernel
theorem dX4_read_3 : decode cX4_read 3 = .ok (.ldc2_w 165, 3) := by decide +kernel
theorem dX4_read_6 : decode cX4_read 6 = .ok (.invokestatic 49, 3) := by decide +kernel
theorem dX4_read_9 : decode cX4_read 9 = .ok (.ifCond .eq 28, 3) := by decide +kernel
theorem dX4_read_12 : decode cX4_read 12 = .ok (.iload_n 2, 1) := by decide +kernel
theorem dX4_read_13 : decode cX4_read 13 = .ok (.i2l, 1) := by decide +kernel
theorem dX4_read_14 : decode cX4_read 14 = .ok (.lconst 0, 1) := by decide +kernel
theorem dX4_read_15 : decode cX4_read 15 = .ok (.ldc2_w 231, 3) := by decide +kernel
theorem dX4_read_18 : decode cX4_read 18 = .ok (.invokestatic 49, 3) := by decide +kernel
theorem dX4_read_21 : decode cX4_read 21 = .ok (.ifCond .eq 16, 3) := by decide +kernel
theorem dX4_read_24 : decode cX4_read 24 = .ok (.iload 4, 2) := by decide +kernel
theorem dX4_read_26 : decode cX4_read 26 = .ok (.i2l, 1) := by decide +kernel
theorem dX4_read_27 : decode cX4_read 27 = .ok (.lconst 0, 1) := by decide +kernel
theorem dX4_read_28 : decode cX4_read 28 = .ok (.ldc2_w 233, 3) := by decide +kernel
theorem dX4_read_31 : decode cX4_read 31 = .ok (.invokestatic 49, 3) := by decide +kernel
theorem dX4_read_34 : decode cX4_read 34 = .ok (.ifCond .ne 5, 3) := by decide +kernel
theorem dX4_read_37 : decode cX4_read 37 = .ok (.iconst (-1), 1) := by decide +kernel
theorem dX4_read_38 : decode cX4_read 38 = .ok (.ireturn, 1) := by decide +kernel
theorem dX4_read_39 : decode cX4_read 39 = .ok (.aload_n 0, 1) := by decide +kernel
theorem dX4_read_40 : decode cX4_read 40 = .ok (.iconst 0, 1) := by decide +kernel
theorem dX4_read_41 : decode cX4_read 41 = .ok (.bipush 99, 2) := by decide +kernel
theorem dX4_read_43 : decode cX4_read 43 = .ok (.invokevirtual 196, 3) := by decide +kernel
theorem dX4_read_46 : decode cX4_read 46 = .ok (.iconst 0, 1) := by decide +kernel
theorem dX4_read_47 : decode cX4_read 47 = .ok (.istore 5, 2) := by decide +kernel
theorem dX4_read_49 : decode cX4_read 49 = .ok (.iconst 0, 1) := by decide +kernel
theorem dX4_read_50 : decode cX4_read 50 = .ok (.istore 6, 2) := by decide +kernel
theorem dX4_read_52 : decode cX4_read 52 = .ok (.iconst 0, 1) := by decide +kernel
theorem dX4_read_53 : decode cX4_read 53 = .ok (.istore 7, 2) := by decide +kernel
theorem dX4_read_55 : decode cX4_read 55 = .ok (.iload 7, 2) := by decide +kernel
theorem dX4_read_57 : decode cX4_read 57 = .ok (.iconst 2, 1) := by decide +kernel
theorem dX4_read_58 : decode cX4_read 58 = .ok (.iload 4, 2) := by decide +kernel
theorem dX4_read_60 : decode cX4_read 60 = .ok (.imul, 1) := by decide +kernel
theorem dX4_read_61 : decode cX4_read 61 = .ok (.if_icmp .ge 136, 3) := by decide +kernel
theorem dX4_read_64 : decode cX4_read 64 = .ok (.iload 5, 2) := by decide +kernel
theorem dX4_read_66 : decode cX4_read 66 = .ok (.ifCond .ne 131, 3) := by decide +kernel
theorem dX4_read_69 : decode cX4_read 69 = .ok (.aload_n 0, 1) := by decide +kernel
theorem dX4_read_70 : decode cX4_read 70 = .ok (.getfield 38, 3) := by decide +kernel
theorem dX4_read_73 : decode cX4_read 73 = .ok (.iload_n 1, 1) := by decide +kernel
theorem dX4_read_74 : decode cX4_read 74 = .ok (.iaload, 1) := by decide +kernel
theorem dX4_read_75 : decode cX4_read 75 = .ok (.bipush (-4), 2) := by decide +kernel
theorem dX4_read_77 : decode cX4_read 77 = .ok (.if_icmp .ne 7, 3) := by decide +kernel
theorem dX4_read_80 : decode cX4_read 80 = .ok (.iconst 1, 1) := by decide +kernel
theorem dX4_read_81 : decode cX4_read 81 = .ok (.goto 44, 3) := by decide +kernel
theorem dX4_read_84 : decode cX4_read 84 = .ok (.aload_n 0, 1) := by decide +kernel
theorem dX4_read_85 : decode cX4_read 85 = .ok (.getfield 38, 3) := by decide +kernel
theorem dX4_read_88 : decode cX4_read 88 = .ok (.iload_n 1, 1) := by decide +kernel
theorem dX4_read_89 : decode cX4_read 89 = .ok (.iaload, 1) := by decide +kernel
theorem dX4_read_90 : decode cX4_read 90 = .ok (.iload_n 2, 1) := by decide +kernel
theorem dX4_read_91 : decode cX4_read 91 = .ok (.if_icmp .eq 7, 3) := by decide +kernel
theorem dX4_read_94 : decode cX4_read 94 = .ok (.iconst 3, 1) := by decide +kernel
theorem dX4_read_95 : decode cX4_read 95 = .ok (.goto 30, 3) := by decide +kernel
theorem dX4_read_98 : decode cX4_read 98 = .ok (.iload_n 3, 1) := by decide +kernel
theorem dX4_read_99 : decode cX4_read 99 = .ok (.i2l, 1) := by decide +kernel
theorem dX4_read_100 : decode cX4_read 100 = .ok (.iload 7, 2) := by decide +kernel
theorem dX4_read_102 : decode cX4_read 102 = .ok (.i2l, 1) := by decide +kernel
theorem dX4_read_103 : decode cX4_read 103 = .ok (.ladd, 1) := by decide +kernel
theorem dX4_read_104 : decode cX4_read 104 = .ok (.lconst 0, 1) := by decide +kernel
theorem dX4_read_105 : decode cX4_read 105 = .ok (.aload_n 0, 1) := by decide +kernel
theorem dX4_read_106 : decode cX4_read 106 = .ok (.getfield 41, 3) := by decide +kernel
theorem dX4_read_109 : decode cX4_read 109 = .ok (.iload_n 1, 1) := by decide +kernel
theorem dX4_read_110 : decode cX4_read 110 = .ok (.iaload, 1) := by decide +kernel
theorem dX4_read_111 : decode cX4_read 111 = .ok (.iconst 1, 1) := by decide +kernel
theorem dX4_read_112 : decode cX4_read 112 = .ok (.isub, 1) := by decide +kernel
theorem dX4_read_113 : decode cX4_read 113 = .ok (.i2l, 1) := by decide +kernel
theorem dX4_read_114 : decode cX4_read 114 = .ok (.invokestatic 49, 3) := by decide +kernel
theorem dX4_read_117 : decode cX4_read 117 = .ok (.ifCond .ne 7, 3) := by decide +kernel
theorem dX4_read_120 : decode cX4_read 120 = .ok (.iconst 2, 1) := by decide +kernel
theorem dX4_read_121 : decode cX4_read 121 = .ok (.goto 4, 3) := by decide +kernel
theorem dX4_read_124 : decode cX4_read 124 = .ok (.iconst 0, 1) := by decide +kernel
theorem dX4_read_125 : decode cX4_read 125 = .ok (.istore 5, 2) := by decide +kernel
theorem dX4_read_127 : decode cX4_read 127 = .ok (.iload 5, 2) := by decide +kernel
theorem dX4_read_129 : decode cX4_read 129 = .ok (.ifCond .ne 62, 3) := by decide +kernel
theorem dX4_read_132 : decode cX4_read 132 = .ok (.iload 7, 2) := by decide +kernel
theorem dX4_read_134 : decode cX4_read 134 = .ok (.iconst 2, 1) := by decide +kernel
theorem dX4_read_135 : decode cX4_read 135 = .ok (.irem, 1) := by decide +kernel
theorem dX4_read_136 : decode cX4_read 136 = .ok (.iconst 1, 1) := by decide +kernel
theorem dX4_read_137 : decode cX4_read 137 = .ok (.if_icmp .ne 54, 3) := by decide +kernel
theorem dX4_read_140 : decode cX4_read 140 = .ok (.bipush 40, 2) := by decide +kernel
theorem dX4_read_142 : decode cX4_read 142 = .ok (.iload_n 1, 1) := by decide +kernel
theorem dX4_read_143 : decode cX4_read 143 = .ok (.imul, 1) := by decide +kernel
theorem dX4_read_144 : decode cX4_read 144 = .ok (.iload_n 3, 1) := by decide +kernel
theorem dX4_read_145 : decode cX4_read 145 = .ok (.iadd, 1) := by decide +kernel
theorem dX4_read_146 : decode cX4_read 146 = .ok (.iload 7, 2) := by decide +kernel
theorem dX4_read_148 : decode cX4_read 148 = .ok (.iadd, 1) := by decide +kernel
theorem dX4_read_149 : decode cX4_read 149 = .ok (.istore 8, 2) := by decide +kernel
theorem dX4_read_151 : decode cX4_read 151 = .ok (.aload_n 0, 1) := by decide +kernel
theorem dX4_read_152 : decode cX4_read 152 = .ok (.aload_n 0, 1) := by decide +kernel
theorem dX4_read_153 : decode cX4_read 153 = .ok (.getfield 44, 3) := by decide +kernel
theorem dX4_read_156 : decode cX4_read 156 = .ok (.iload 8, 2) := by decide +kernel
theorem dX4_read_158 : decode cX4_read 158 = .ok (.iconst 1, 1) := by decide +kernel
theorem dX4_read_159 : decode cX4_read 159 = .ok (.isub, 1) := by decide +kernel
theorem dX4_read_160 : decode cX4_read 160 = .ok (.iaload, 1) := by decide +kernel
theorem dX4_read_161 : decode cX4_read 161 = .ok (.aload_n 0, 1) := by decide +kernel
theorem dX4_read_162 : decode cX4_read 162 = .ok (.getfield 44, 3) := by decide +kernel
theorem dX4_read_165 : decode cX4_read 165 = .ok (.iload 8, 2) := by decide +kernel
theorem dX4_read_167 : decode cX4_read 167 = .ok (.iaload, 1) := by decide +kernel
theorem dX4_read_168 : decode cX4_read 168 = .ok (.invokevirtual 186, 3) := by decide +kernel
theorem dX4_read_171 : decode cX4_read 171 = .ok (.iconst (-1), 1) := by decide +kernel
theorem dX4_read_172 : decode cX4_read 172 = .ok (.if_icmp .ne 16, 3) := by decide +kernel
theorem dX4_read_175 : decode cX4_read 175 = .ok (.aload_n 0, 1) := by decide +kernel
theorem dX4_read_176 : decode cX4_read 176 = .ok (.bipush 99, 2) := by decide +kernel
theorem dX4_read_178 : decode cX4_read 178 = .ok (.iconst 0, 1) := by decide +kernel
theorem dX4_read_179 : decode cX4_read 179 = .ok (.invokevirtual 196, 3) := by decide +kernel
theorem dX4_read_182 : decode cX4_read 182 = .ok (.bipush (-20), 2) := by decide +kernel
theorem dX4_read_184 : decode cX4_read 184 = .ok (.iload 6, 2) := by decide +kernel
theorem dX4_read_186 : decode cX4_read 186 = .ok (.isub, 1) := by decide +kernel
theorem dX4_read_187 : decode cX4_read 187 = .ok (.ireturn, 1) := by decide +kernel
theorem dX4_read_188 : decode cX4_read 188 = .ok (.iinc 6 1, 3) := by decide +kernel
theorem dX4_read_191 : decode cX4_read 191 = .ok (.iinc 7 1, 3) := by decide +kernel
theorem dX4_read_194 : decode cX4_read 194 = .ok (.goto (-139), 3) := by decide +kernel
theorem dX4_read_197 : decode cX4_read 197 = .ok (.aload_n 0, 1) := by decide +kernel
theorem dX4_read_198 : decode cX4_read 198 = .ok (.iload 5, 2) := by decide +kernel
theorem dX4_read_200 : decode cX4_read 200 = .ok (.putfield 235, 3) := by decide +kernel
theorem dX4_read_203 : decode cX4_read 203 = .ok (.iload 6, 2) := by decide +kernel
theorem dX4_read_205 : decode cX4_read 205 = .ok (.ireturn, 1) := by decide +kernel
theorem dX4_torn_0 : decode cX4_torn 0 = .ok (.aload_n 0, 1) := by decide +kernel
theorem dX4_torn_1 : decode cX4_torn 1 = .ok (.getfield 235, 3) := by decide +kernel
theorem dX4_torn_4 : decode cX4_torn 4 = .ok (.ireturn, 1) := by decide +kernel
theorem dX4_count_0 : decode cX4_count 0 = .ok (.iconst 0, 1) := by decide +kernel
theorem dX4_count_1 : decode cX4_count 1 = .ok (.istore_n 2, 1) := by decide +kernel
theorem dX4_count_2 : decode cX4_count 2 = .ok (.iconst 0, 1) := by decide +kernel
theorem dX4_count_3 : decode cX4_count 3 = .ok (.istore_n 3, 1) := by decide +kernel
theorem dX4_count_4 : decode cX4_count 4 = .ok (.aload_n 0, 1) := by decide +kernel
theorem dX4_count_5 : decode cX4_count 5 = .ok (.invokevirtual 149, 3) := by decide +kernel
theorem dX4_count_8 : decode cX4_count 8 = .ok (.iconst 0, 1) := by decide +kernel
theorem dX4_count_9 : decode cX4_count 9 = .ok (.istore 4, 2) := by decide +kernel
theorem dX4_count_11 : decode cX4_count 11 = .ok (.iload 4, 2) := by decide +kernel
theorem dX4_count_13 : decode cX4_count 13 = .ok (.aload_n 0, 1) := by decide +kernel
theorem dX4_count_14 : decode cX4_count 14 = .ok (.getfield 7, 3) := by decide +kernel
theorem dX4_count_17 : decode cX4_count 17 = .ok (.bipush 32, 2) := by decide +kernel
theorem dX4_count_19 : decode cX4_count 19 = .ok (.iaload, 1) := by decide +kernel
theorem dX4_count_20 : decode cX4_count 20 = .ok (.if_icmp .ge 22, 3) := by decide +kernel
theorem dX4_count_23 : decode cX4_count 23 = .ok (.iload_n 2, 1) := by decide +kernel
theorem dX4_count_24 : decode cX4_count 24 = .ok (.aload_n 0, 1) := by decide +kernel
theorem dX4_count_25 : decode cX4_count 25 = .ok (.getfield 7, 3) := by decide +kernel
theorem dX4_count_28 : decode cX4_count 28 = .ok (.bipush 27, 2) := by decide +kernel
theorem dX4_count_30 : decode cX4_count 30 = .ok (.iload 4, 2) := by decide +kernel
theorem dX4_count_32 : decode cX4_count 32 = .ok (.iadd, 1) := by decide +kernel
theorem dX4_count_33 : decode cX4_count 33 = .ok (.iaload, 1) := by decide +kernel
theorem dX4_count_34 : decode cX4_count 34 = .ok (.iadd, 1) := by decide +kernel
theorem dX4_count_35 : decode cX4_count 35 = .ok (.istore_n 2, 1) := by decide +kernel
theorem dX4_count_36 : decode cX4_count 36 = .ok (.iinc 4 1, 3) := by decide +kernel
theorem dX4_count_39 : decode cX4_count 39 = .ok (.goto (-28), 3) := by decide +kernel
theorem dX4_count_42 : decode cX4_count 42 = .ok (.iconst 0, 1) := by decide +kernel
theorem dX4_count_43 : decode cX4_count 43 = .ok (.istore 4, 2) := by decide +kernel
theorem dX4_count_45 : decode cX4_count 45 = .ok (.iload 4, 2) := by decide +kernel
theorem dX4_count_47 : decode cX4_count 47 = .ok (.bipush 48, 2) := by decide +kernel
theorem dX4_count_49 : decode cX4_count 49 = .ok (.if_icmp .ge 29, 3) := by decide +kernel
theorem dX4_count_52 : decode cX4_count 52 = .ok (.iload_n 3, 1) := by decide +kernel
theorem dX4_count_53 : decode cX4_count 53 = .ok (.aload_n 0, 1) := by decide +kernel
theorem dX4_count_54 : decode cX4_count 54 = .ok (.getfield 25, 3) := by decide +kernel
theorem dX4_count_57 : decode cX4_count 57 = .ok (.iload 4, 2) := by decide +kernel
theorem dX4_count_59 : decode cX4_count 59 = .ok (.iaload, 1) := by decide +kernel
theorem dX4_count_60 : decode cX4_count 60 = .ok (.bipush (-4), 2) := by decide +kernel
theorem dX4_count_62 : decode cX4_count 62 = .ok (.if_icmp .ne 7, 3) := by decide +kernel
theorem dX4_count_65 : decode cX4_count 65 = .ok (.iconst 0, 1) := by decide +kernel
theorem dX4_count_66 : decode cX4_count 66 = .ok (.goto 4, 3) := by decide +kernel
theorem dX4_count_69 : decode cX4_count 69 = .ok (.iconst 1, 1) := by decide +kernel
theorem dX4_count_70 : decode cX4_count 70 = .ok (.iadd, 1) := by decide +kernel
theorem dX4_count_71 : decode cX4_count 71 = .ok (.istore_n 3, 1) := by decide +kernel
theorem dX4_count_72 : decode cX4_count 72 = .ok (.iinc 4 1, 3) := by decide +kernel
theorem dX4_count_75 : decode cX4_count 75 = .ok (.goto (-30), 3) := by decide +kernel
theorem dX4_count_78 : decode cX4_count 78 = .ok (.iload_n 1, 1) := by decide +kernel
theorem dX4_count_79 : decode cX4_count 79 = .ok (.tableswitch 104 0 5 #[37, 42, 72, 77, 100, 102], 37) := by decide +kernel
theorem dX4_count_116 : decode cX4_count 116 = .ok (.aload_n 0, 1) := by decide +kernel
theorem dX4_count_117 : decode cX4_count 117 = .ok (.getfield 131, 3) := by decide +kernel
theorem dX4_count_120 : decode cX4_count 120 = .ok (.ireturn, 1) := by decide +kernel
theorem dX4_count_121 : decode cX4_count 121 = .ok (.aload_n 0, 1) := by decide +kernel
theorem dX4_count_122 : decode cX4_count 122 = .ok (.getfield 34, 3) := by decide +kernel
theorem dX4_count_125 : decode cX4_count 125 = .ok (.iconst 0, 1) := by decide +kernel
theorem dX4_count_126 : decode cX4_count 126 = .ok (.baload, 1) := by decide +kernel
theorem dX4_count_127 : decode cX4_count 127 = .ok (.ifCond .eq 7, 3) := by decide +kernel
theorem dX4_count_130 : decode cX4_count 130 = .ok (.iconst 1, 1) := by decide +kernel
theorem dX4_count_131 : decode cX4_count 131 = .ok (.goto 4, 3) := by decide +kernel
theorem dX4_count_134 : decode cX4_count 134 = .ok (.iconst 0, 1) := by decide +kernel
theorem dX4_count_135 : decode cX4_count 135 = .ok (.aload_n 0, 1) := by decide +kernel
theorem dX4_count_136 : decode cX4_count 136 = .ok (.getfield 34, 3) := by decide +kernel
theorem dX4_count_139 : decode cX4_count 139 = .ok (.iconst 1, 1) := by decide +kernel
theorem dX4_count_140 : decode cX4_count 140 = .ok (.baload, 1) := by decide +kernel
theorem dX4_count_141 : decode cX4_count 141 = .ok (.ifCond .eq 7, 3) := by decide +kernel
theorem dX4_count_144 : decode cX4_count 144 = .ok (.iconst 1, 1) := by decide +kernel
theorem dX4_count_145 : decode cX4_count 145 = .ok (.goto 4, 3) := by decide +kernel
theorem dX4_count_148 : decode cX4_count 148 = .ok (.iconst 0, 1) := by decide +kernel
theorem dX4_count_149 : decode cX4_count 149 = .ok (.iadd, 1) := by decide +kernel
theorem dX4_count_150 : decode cX4_count 150 = .ok (.ireturn, 1) := by decide +kernel
theorem dX4_count_151 : decode cX4_count 151 = .ok (.aload_n 0, 1) := by decide +kernel
theorem dX4_count_152 : decode cX4_count 152 = .ok (.getfield 53, 3) := by decide +kernel
theorem dX4_count_155 : decode cX4_count 155 = .ok (.ireturn, 1) := by decide +kernel
theorem dX4_count_156 : decode cX4_count 156 = .ok (.aload_n 0, 1) := by decide +kernel
theorem dX4_count_157 : decode cX4_count 157 = .ok (.getfield 38, 3) := by decide +kernel
theorem dX4_count_160 : decode cX4_count 160 = .ok (.iconst 0, 1) := by decide +kernel
theorem dX4_count_161 : decode cX4_count 161 = .ok (.iaload, 1) := by decide +kernel
theorem dX4_count_162 : decode cX4_count 162 = .ok (.bipush (-4), 2) := by decide +kernel
theorem dX4_count_164 : decode cX4_count 164 = .ok (.if_icmp .ne 8, 3) := by decide +kernel
theorem dX4_count_167 : decode cX4_count 167 = .ok (.bipush (-4), 2) := by decide +kernel
theorem dX4_count_169 : decode cX4_count 169 = .ok (.goto 9, 3) := by decide +kernel
theorem dX4_count_172 : decode cX4_count 172 = .ok (.aload_n 0, 1) := by decide +kernel
theorem dX4_count_173 : decode cX4_count 173 = .ok (.getfield 41, 3) := by decide +kernel
theorem dX4_count_176 : decode cX4_count 176 = .ok (.iconst 0, 1) := by decide +kernel
theorem dX4_count_177 : decode cX4_count 177 = .ok (.iaload, 1) := by decide +kernel
theorem dX4_count_178 : decode cX4_count 178 = .ok (.ireturn, 1) := by decide +kernel
theorem dX4_count_179 : decode cX4_count 179 = .ok (.iload_n 2, 1) := by decide +kernel
theorem dX4_count_180 : decode cX4_count 180 = .ok (.ireturn, 1) := by decide +kernel
theorem dX4_count_181 : decode cX4_count 181 = .ok (.iload_n 3, 1) := by decide +kernel
theorem dX4_count_182 : decode cX4_count 182 = .ok (.ireturn, 1) := by decide +kernel
theorem dX4_count_183 : decode cX4_count 183 = .ok (.iconst (-1), 1) := by decide +kernel
theorem dX4_count_184 : decode cX4_count 184 = .ok (.ireturn, 1) := by decide +kernel

theorem dX7_init_0 : decode cX7_init 0 = .ok (.aload_n 0, 1) := by decide +kernel
theorem dX7_init_1 : decode cX7_init 1 = .ok (.invokespecial 1, 3) := by decide +kernel
theorem dX7_init_4 : decode cX7_init 4 = .ok (.aload_n 0, 1) := by decide +kernel
theorem dX7_init_5 : decode cX7_init 5 = .ok (.sipush 408, 3) := by decide +kernel
theorem dX7_init_8 : decode cX7_init 8 = .ok (.newarray .int, 2) := by decide +kernel
theorem dX7_init_10 : decode cX7_init 10 = .ok (.putfield 7, 3) := by decide +kernel
theorem dX7_init_13 : decode cX7_init 13 = .ok (.aload_n 0, 1) := by decide +kernel
theorem dX7_init_14 : decode cX7_init 14 = .ok (.iconst 4, 1) := by decide +kernel
theorem dX7_init_15 : decode cX7_init 15 = .ok (.newarray .int, 2) := by decide +kernel
theorem dX7_init_17 : decode cX7_init 17 = .ok (.dup, 1) := by decide +kernel
theorem dX7_init_18 : decode cX7_init 18 = .ok (.iconst 0, 1) := by decide +kernel
theorem dX7_init_19 : decode cX7_init 19 = .ok (.iconst 3, 1) := by decide +kernel
theorem dX7_init_20 : decode cX7_init 20 = .ok (.iastore, 1) := by decide +kernel
theorem dX7_init_21 : decode cX7_init 21 = .ok (.dup, 1) := by decide +kernel
theorem dX7_init_22 : decode cX7_init 22 = .ok (.iconst 1, 1) := by decide +kernel
theorem dX7_init_23 : decode cX7_init 23 = .ok (.iconst 2, 1) := by decide +kernel
theorem dX7_init_24 : decode cX7_init 24 = .ok (.iastore, 1) := by decide +kernel
theorem dX7_init_25 : decode cX7_init 25 = .ok (.dup, 1) := by decide +kernel
theorem dX7_init_26 : decode cX7_init 26 = .ok (.iconst 2, 1) := by decide +kernel
theorem dX7_init_27 : decode cX7_init 27 = .ok (.iconst 1, 1) := by decide +kernel
theorem dX7_init_28 : decode cX7_init 28 = .ok (.iastore, 1) := by decide +kernel
theorem dX7_init_29 : decode cX7_init 29 = .ok (.dup, 1) := by decide +kernel
theorem dX7_init_30 : decode cX7_init 30 = .ok (.iconst 3, 1) := by decide +kernel
theorem dX7_init_31 : decode cX7_init 31 = .ok (.bipush 6, 2) := by decide +kernel
theorem dX7_init_33 : decode cX7_init 33 = .ok (.iastore, 1) := by decide +kernel
theorem dX7_init_34 : decode cX7_init 34 = .ok (.putfield 13, 3) := by decide +kernel
theorem dX7_init_37 : decode cX7_init 37 = .ok (.aload_n 0, 1) := by decide +kernel
theorem dX7_init_38 : decode cX7_init 38 = .ok (.bipush 68, 2) := by decide +kernel
theorem dX7_init_40 : decode cX7_init 40 = .ok (.newarray .int, 2) := by decide +kernel
theorem dX7_init_42 : decode cX7_init 42 = .ok (.putfield 16, 3) := by decide +kernel
theorem dX7_init_45 : decode cX7_init 45 = .ok (.aload_n 0, 1) := by decide +kernel
theorem dX7_init_46 : decode cX7_init 46 = .ok (.sipush 160, 3) := by decide +kernel
theorem dX7_init_49 : decode cX7_init 49 = .ok (.newarray .int, 2) := by decide +kernel
theorem dX7_init_51 : decode cX7_init 51 = .ok (.putfield 19, 3) := by decide +kernel
theorem dX7_init_54 : decode cX7_init 54 = .ok (.aload_n 0, 1) := by decide +kernel
theorem dX7_init_55 : decode cX7_init 55 = .ok (.bipush 12, 2) := by decide +kernel
theorem dX7_init_57 : decode cX7_init 57 = .ok (.newarray .int, 2) := by decide +kernel
theorem dX7_init_59 : decode cX7_init 59 = .ok (.dup, 1) := by decide +kernel
theorem dX7_init_60 : decode cX7_init 60 = .ok (.iconst 0, 1) := by decide +kernel
theorem dX7_init_61 : decode cX7_init 61 = .ok (.iconst 0, 1) := by decide +kernel
theorem dX7_init_62 : decode cX7_init 62 = .ok (.iastore, 1) := by decide +kernel
theorem dX7_init_63 : decode cX7_init 63 = .ok (.dup, 1) := by decide +kernel
theorem dX7_init_64 : decode cX7_init 64 = .ok (.iconst 1, 1) := by decide +kernel
theorem dX7_init_65 : decode cX7_init 65 = .ok (.bipush 6, 2) := by decide +kernel
theorem dX7_init_67 : decode cX7_init 67 = .ok (.iastore, 1) := by decide +kernel
theorem dX7_init_68 : decode cX7_init 68 = .ok (.dup, 1) := by decide +kernel
theorem dX7_init_69 : decode cX7_init 69 = .ok (.iconst 2, 1) := by decide +kernel
theorem dX7_init_70 : decode cX7_init 70 = .ok (.bipush 9, 2) := by decide +kernel
theorem dX7_init_72 : decode cX7_init 72 = .ok (.iastore, 1) := by decide +kernel
theorem dX7_init_73 : decode cX7_init 73 = .ok (.dup, 1) := by decide +kernel
theorem dX7_init_74 : decode cX7_init 74 = .ok (.iconst 3, 1) := by decide +kernel
theorem dX7_init_75 : decode cX7_init 75 = .ok (.bipush 13, 2) := by decide +kernel
theorem dX7_init_77 : decode cX7_init 77 = .ok (.iastore, 1) := by decide +kernel
theorem dX7_init_78 : decode cX7_init 78 = .ok (.dup, 1) := by decide +kernel
theorem dX7_init_79 : decode cX7_init 79 = .ok (.iconst 4, 1) := by decide +kernel
theorem dX7_init_80 : decode cX7_init 80 = .ok (.bipush 18, 2) := by decide +kernel
theorem dX7_init_82 : decode cX7_init 82 = .ok (.iastore, 1) := by decide +kernel
theorem dX7_init_83 : decode cX7_init 83 = .ok (.dup, 1) := by decide +kernel
theorem dX7_init_84 : decode cX7_init 84 = .ok (.iconst 5, 1) := by decide +kernel
theorem dX7_init_85 : decode cX7_init 85 = .ok (.bipush 23, 2) := by decide +kernel
theorem dX7_init_87 : decode cX7_init 87 = .ok (.iastore, 1) := by decide +kernel
theorem dX7_init_88 : decode cX7_init 88 = .ok (.dup, 1) := by decide +kernel
theorem dX7_init_89 : decode cX7_init 89 = .ok (.bipush 6, 2) := by decide +kernel
theorem dX7_init_91 : decode cX7_init 91 = .ok (.bipush 27, 2) := by decide +kernel
theorem dX7_init_93 : decode cX7_init 93 = .ok (.iastore, 1) := by decide +kernel
theorem dX7_init_94 : decode cX7_init 94 = .ok (.dup, 1) := by decide +kernel
theorem dX7_init_95 : decode cX7_init 95 = .ok (.bipush 7, 2) := by decide +kernel
theorem dX7_init_97 : decode cX7_init 97 = .ok (.bipush 32, 2) := by decide +kernel
theorem dX7_init_99 : decode cX7_init 99 = .ok (.iastore, 1) := by decide +kernel
theorem dX7_init_100 : decode cX7_init 100 = .ok (.dup, 1) := by decide +kernel
theorem dX7_init_101 : decode cX7_init 101 = .ok (.bipush 8, 2) := by decide +kernel
theorem dX7_init_103 : decode cX7_init 103 = .ok (.bipush 36, 2) := by decide +kernel
theorem dX7_init_105 : decode cX7_init 105 = .ok (.iastore, 1) := by decide +kernel
theorem dX7_init_106 : decode cX7_init 106 = .ok (.dup, 1) := by decide +kernel
theorem dX7_init_107 : decode cX7_init 107 = .ok (.bipush 9, 2) := by decide +kernel
theorem dX7_init_109 : decode cX7_init 109 = .ok (.bipush 40, 2) := by decide +kernel
theorem dX7_init_111 : decode cX7_init 111 = .ok (.iastore, 1) := by decide +kernel
theorem dX7_init_112 : decode cX7_init 112 = .ok (.dup, 1) := by decide +kernel
theorem dX7_init_113 : decode cX7_init 113 = .ok (.bipush 10, 2) := by decide +kernel
theorem dX7_init_115 : decode cX7_init 115 = .ok (.bipush 47, 2) := by decide +kernel
theorem dX7_init_117 : decode cX7_init 117 = .ok (.iastore, 1) := by decide +kernel
theorem dX7_init_118 : decode cX7_init 118 = .ok (.dup, 1) := by decide +kernel
theorem dX7_init_119 : decode cX7_init 119 = .ok (.bipush 11, 2) := by decide +kernel
theorem dX7_init_121 : decode cX7_init 121 = .ok (.bipush 53, 2) := by decide +kernel
theorem dX7_init_123 : decode cX7_init 123 = .ok (.iastore, 1) := by decide +kernel
theorem dX7_init_124 : decode cX7_init 124 = .ok (.putfield 22, 3) := by decide +kernel
theorem dX7_init_127 : decode cX7_init 127 = .ok (.aload_n 0, 1) := by decide +kernel
theorem dX7_init_128 : decode cX7_init 128 = .ok (.bipush 53, 2) := by decide +kernel
theorem dX7_init_130 : decode cX7_init 130 = .ok (.newarray .int, 2) := by decide +kernel
theorem dX7_init_132 : decode cX7_init 132 = .ok (.dup, 1) := by decide +kernel
theorem dX7_init_133 : decode cX7_init 133 = .ok (.iconst 0, 1) := by decide +kernel
theorem dX7_init_134 : decode cX7_init 134 = .ok (.bipush 116, 2) := by decide +kernel
theorem dX7_init_136 : decode cX7_init 136 = .ok (.iastore, 1) := by decide +kernel
theorem dX7_init_137 : decode cX7_init 137 = .ok (.dup, 1) := by decide +kernel
theorem dX7_init_138 : decode cX7_init 138 = .ok (.iconst 1, 1) := by decide +kernel
theorem dX7_init_139 : decode cX7_init 139 = .ok (.bipush 97, 2) := by decide +kernel
theorem dX7_init_141 : decode cX7_init 141 = .ok (.iastore, 1) := by decide +kernel
theorem dX7_init_142 : decode cX7_init 142 = .ok (.dup, 1) := by decide +kernel
theorem dX7_init_143 : decode cX7_init 143 = .ok (.iconst 2, 1) := by decide +kernel
theorem dX7_init_144 : decode cX7_init 144 = .ok (.bipush 108, 2) := by decide +kernel
theorem dX7_init_146 : decode cX7_init 146 = .ok (.iastore, 1) := by decide +kernel
theorem dX7_init_147 : decode cX7_init 147 = .ok (.dup, 1) := by decide +kernel
theorem dX7_init_148 : decode cX7_init 148 = .ok (.iconst 3, 1) := by decide +kernel
theorem dX7_init_149 : decode cX7_init 149 = .ok (.bipush 108, 2) := by decide +kernel
theorem dX7_init_151 : decode cX7_init 151 = .ok (.iastore, 1) := by decide +kernel
theorem dX7_init_152 : decode cX7_init 152 = .ok (.dup, 1) := by decide +kernel
theorem dX7_init_153 : decode cX7_init 153 = .ok (.iconst 4, 1) := by decide +kernel
theorem dX7_init_154 : decode cX7_init 154 = .ok (.bipush 111, 2) := by decide +kernel
theorem dX7_init_156 : decode cX7_init 156 = .ok (.iastore, 1) := by decide +kernel
theorem dX7_init_157 : decode cX7_init 157 = .ok (.dup, 1) := by decide +kernel
theorem dX7_init_158 : decode cX7_init 158 = .ok (.iconst 5, 1) := by decide +kernel
theorem dX7_init_159 : decode cX7_init 159 = .ok (.bipush 119, 2) := by decide +kernel
theorem dX7_init_161 : decode cX7_init 161 = .ok (.iastore, 1) := by decide +kernel
theorem dX7_init_162 : decode cX7_init 162 = .ok (.dup, 1) := by decide +kernel
theorem dX7_init_163 : decode cX7_init 163 = .ok (.bipush 6, 2) := by decide +kernel
theorem dX7_init_165 : decode cX7_init 165 = .ok (.bipush 119, 2) := by decide +kernel
theorem dX7_init_167 : decode cX7_init 167 = .ok (.iastore, 1) := by decide +kernel
theorem dX7_init_168 : decode cX7_init 168 = .ok (.dup, 1) := by decide +kernel
theorem dX7_init_169 : decode cX7_init 169 = .ok (.bipush 7, 2) := by decide +kernel
theorem dX7_init_171 : decode cX7_init 171 = .ok (.bipush 97, 2) := by decide +kernel
theorem dX7_init_173 : decode cX7_init 173 = .ok (.iastore, 1) := by decide +kernel
theorem dX7_init_174 : decode cX7_init 174 = .ok (.dup, 1) := by decide +kernel
theorem dX7_init_175 : decode cX7_init 175 = .ok (.bipush 8, 2) := by decide +kernel
theorem dX7_init_177 : decode cX7_init 177 = .ok (.bipush 120, 2) := by decide +kernel
theorem dX7_init_179 : decode cX7_init 179 = .ok (.iastore, 1) := by decide +kernel
theorem dX7_init_180 : decode cX7_init 180 = .ok (.dup, 1) := by decide +kernel
theorem dX7_init_181 : decode cX7_init 181 = .ok (.bipush 9, 2) := by decide +kernel
theorem dX7_init_183 : decode cX7_init 183 = .ok (.bipush 98, 2) := by decide +kernel
theorem dX7_init_185 : decode cX7_init 185 = .ok (.iastore, 1) := by decide +kernel
theorem dX7_init_186 : decode cX7_init 186 = .ok (.dup, 1) := by decide +kernel
theorem dX7_init_187 : decode cX7_init 187 = .ok (.bipush 10, 2) := by decide +kernel
theorem dX7_init_189 : decode cX7_init 189 = .ok (.bipush 101, 2) := by decide +kernel
theorem dX7_init_191 : decode cX7_init 191 = .ok (.iastore, 1) := by decide +kernel
theorem dX7_init_192 : decode cX7_init 192 = .ok (.dup, 1) := by decide +kernel
theorem dX7_init_193 : decode cX7_init 193 = .ok (.bipush 11, 2) := by decide +kernel
theorem dX7_init_195 : decode cX7_init 195 = .ok (.bipush 101, 2) := by decide +kernel
theorem dX7_init_197 : decode cX7_init 197 = .ok (.iastore, 1) := by decide +kernel
theorem dX7_init_198 : decode cX7_init 198 = .ok (.dup, 1) := by decide +kernel
theorem dX7_init_199 : decode cX7_init 199 = .ok (.bipush 12, 2) := by decide +kernel
theorem dX7_init_201 : decode cX7_init 201 = .ok (.bipush 115, 2) := by decide +kernel
theorem dX7_init_203 : decode cX7_init 203 = .ok (.iastore, 1) := by decide +kernel
theorem dX7_init_204 : decode cX7_init 204 = .ok (.dup, 1) := by decide +kernel
theorem dX7_init_205 : decode cX7_init 205 = .ok (.bipush 13, 2) := by decide +kernel
theorem dX7_init_207 : decode cX7_init 207 = .ok (.bipush 116, 2) := by decide +kernel
theorem dX7_init_209 : decode cX7_init 209 = .ok (.iastore, 1) := by decide +kernel
theorem dX7_init_210 : decode cX7_init 210 = .ok (.dup, 1) := by decide +kernel
theorem dX7_init_211 : decode cX7_init 211 = .ok (.bipush 14, 2) := by decide +kernel
theorem dX7_init_213 : decode cX7_init 213 = .ok (.bipush 104, 2) := by decide +kernel
theorem dX7_init_215 : decode cX7_init 215 = .ok (.iastore, 1) := by decide +kernel
theorem dX7_init_216 : decode cX7_init 216 = .ok (.dup, 1) := by decide +kernel
theorem dX7_init_217 : decode cX7_init 217 = .ok (.bipush 15, 2) := by decide +kernel
theorem dX7_init_219 : decode cX7_init 219 = .ok (.bipush 105, 2) := by decide +kernel
theorem dX7_init_221 : decode cX7_init 221 = .ok (.iastore, 1) := by decide +kernel
theorem dX7_init_222 : decode cX7_init 222 = .ok (.dup, 1) := by decide +kernel
theorem dX7_init_223 : decode cX7_init 223 = .ok (.bipush 16, 2) := by decide +kernel
theorem dX7_init_225 : decode cX7_init 225 = .ok (.bipush 101, 2) := by decide +kernel
theorem dX7_init_227 : decode cX7_init 227 = .ok (.iastore, 1) := by decide +kernel
theorem dX7_init_228 : decode cX7_init 228 = .ok (.dup, 1) := by decide +kernel
theorem dX7_init_229 : decode cX7_init 229 = .ok (.bipush 17, 2) := by decide +kernel
theorem dX7_init_231 : decode cX7_init 231 = .ok (.bipush 102, 2) := by decide +kernel
theorem dX7_init_233 : decode cX7_init 233 = .ok (.iastore, 1) := by decide +kernel
theorem dX7_init_234 : decode cX7_init 234 = .ok (.dup, 1) := by decide +kernel
theorem dX7_init_235 : decode cX7_init 235 = .ok (.bipush 18, 2) := by decide +kernel
theorem dX7_init_237 : decode cX7_init 237 = .ok (.bipush 102, 2) := by decide +kernel
theorem dX7_init_239 : decode cX7_init 239 = .ok (.iastore, 1) := by decide +kernel
theorem dX7_init_240 : decode cX7_init 240 = .ok (.dup, 1) := by decide +kernel
theorem dX7_init_241 : decode cX7_init 241 = .ok (.bipush 19, 2) := by decide +kernel
theorem dX7_init_243 : decode cX7_init 243 = .ok (.bipush 105, 2) := by decide +kernel
theorem dX7_init_245 : decode cX7_init 245 = .ok (.iastore, 1) := by decide +kernel
theorem dX7_init_246 : decode cX7_init 246 = .ok (.dup, 1) := by decide +kernel
theorem dX7_init_247 : decode cX7_init 247 = .ok (.bipush 20, 2) := by decide +kernel
theorem dX7_init_249 : decode cX7_init 249 = .ok (.bipush 114, 2) := by decide +kernel
theorem dX7_init_251 : decode cX7_init 251 = .ok (.iastore, 1) := by decide +kernel
theorem dX7_init_252 : decode cX7_init 252 = .ok (.dup, 1) := by decide +kernel
theorem dX7_init_253 : decode cX7_init 253 = .ok (.bipush 21, 2) := by decide +kernel
theorem dX7_init_255 : decode cX7_init 255 = .ok (.bipush 115, 2) := by decide +kernel
theorem dX7_init_257 : decode cX7_init 257 = .ok (.iastore, 1) := by decide +kernel
theorem dX7_init_258 : decode cX7_init 258 = .ok (.dup, 1) := by decide +kernel
theorem dX7_init_259 : decode cX7_init 259 = .ok (.bipush 22, 2) := by decide +kernel
theorem dX7_init_261 : decode cX7_init 261 = .ok (.bipush 116, 2) := by decide +kernel
theorem dX7_init_263 : decode cX7_init 263 = .ok (.iastore, 1) := by decide +kernel
theorem dX7_init_264 : decode cX7_init 264 = .ok (.dup, 1) := by decide +kernel
theorem dX7_init_265 : decode cX7_init 265 = .ok (.bipush 23, 2) := by decide +kernel
theorem dX7_init_267 : decode cX7_init 267 = .ok (.bipush 108, 2) := by decide +kernel
theorem dX7_init_269 : decode cX7_init 269 = .ok (.iastore, 1) := by decide +kernel
theorem dX7_init_270 : decode cX7_init 270 = .ok (.dup, 1) := by decide +kernel
theorem dX7_init_271 : decode cX7_init 271 = .ok (.bipush 24, 2) := by decide +kernel
theorem dX7_init_273 : decode cX7_init 273 = .ok (.bipush 111, 2) := by decide +kernel
theorem dX7_init_275 : decode cX7_init 275 = .ok (.iastore, 1) := by decide +kernel
theorem dX7_init_276 : decode cX7_init 276 = .ok (.dup, 1) := by decide +kernel
theorem dX7_init_277 : decode cX7_init 277 = .ok (.bipush 25, 2) := by decide +kernel
theorem dX7_init_279 : decode cX7_init 279 = .ok (.bipush 110, 2) := by decide +kernel
theorem dX7_init_281 : decode cX7_init 281 = .ok (.iastore, 1) := by decide +kernel
theorem dX7_init_282 : decode cX7_init 282 = .ok (.dup, 1) := by decide +kernel
theorem dX7_init_283 : decode cX7_init 283 = .ok (.bipush 26, 2) := by decide +kernel
theorem dX7_init_285 : decode cX7_init 285 = .ok (.bipush 103, 2) := by decide +kernel
theorem dX7_init_287 : decode cX7_init 287 = .ok (.iastore, 1) := by decide +kernel
theorem dX7_init_288 : decode cX7_init 288 = .ok (.dup, 1) := by decide +kernel
theorem dX7_init_289 : decode cX7_init 289 = .ok (.bipush 27, 2) := by decide +kernel
theorem dX7_init_291 : decode cX7_init 291 = .ok (.bipush 115, 2) := by decide +kernel
theorem dX7_init_293 : decode cX7_init 293 = .ok (.iastore, 1) := by decide +kernel
theorem dX7_init_294 : decode cX7_init 294 = .ok (.dup, 1) := by decide +kernel
theorem dX7_init_295 : decode cX7_init 295 = .ok (.bipush 28, 2) := by decide +kernel
theorem dX7_init_297 : decode cX7_init 297 = .ok (.bipush 104, 2) := by decide +kernel
theorem dX7_init_299 : decode cX7_init 299 = .ok (.iastore, 1) := by decide +kernel
theorem dX7_init_300 : decode cX7_init 300 = .ok (.dup, 1) := by decide +kernel
theorem dX7_init_301 : decode cX7_init 301 = .ok (.bipush 29, 2) := by decide +kernel
theorem dX7_init_303 : decode cX7_init 303 = .ok (.bipush 111, 2) := by decide +kernel
theorem dX7_init_305 : decode cX7_init 305 = .ok (.iastore, 1) := by decide +kernel
theorem dX7_init_306 : decode cX7_init 306 = .ok (.dup, 1) := by decide +kernel
theorem dX7_init_307 : decode cX7_init 307 = .ok (.bipush 30, 2) := by decide +kernel
theorem dX7_init_309 : decode cX7_init 309 = .ok (.bipush 114, 2) := by decide +kernel
theorem dX7_init_311 : decode cX7_init 311 = .ok (.iastore, 1) := by decide +kernel
theorem dX7_init_312 : decode cX7_init 312 = .ok (.dup, 1) := by decide +kernel
theorem dX7_init_313 : decode cX7_init 313 = .ok (.bipush 31, 2) := by decide +kernel
theorem dX7_init_315 : decode cX7_init 315 = .ok (.bipush 116, 2) := by decide +kernel
theorem dX7_init_317 : decode cX7_init 317 = .ok (.iastore, 1) := by decide +kernel
theorem dX7_init_318 : decode cX7_init 318 = .ok (.dup, 1) := by decide +kernel
theorem dX7_init_319 : decode cX7_init 319 = .ok (.bipush 32, 2) := by decide +kernel
theorem dX7_init_321 : decode cX7_init 321 = .ok (.bipush 98, 2) := by decide +kernel
theorem dX7_init_323 : decode cX7_init 323 = .ok (.iastore, 1) := by decide +kernel
theorem dX7_init_324 : decode cX7_init 324 = .ok (.dup, 1) := by decide +kernel
theorem dX7_init_325 : decode cX7_init 325 = .ok (.bipush 33, 2) := by decide +kernel
theorem dX7_init_327 : decode cX7_init 327 = .ok (.bipush 97, 2) := by decide +kernel
theorem dX7_init_329 : decode cX7_init 329 = .ok (.iastore, 1) := by decide +kernel
theorem dX7_init_330 : decode cX7_init 330 = .ok (.dup, 1) := by decide +kernel
theorem dX7_init_331 : decode cX7_init 331 = .ok (.bipush 34, 2) := by decide +kernel
theorem dX7_init_333 : decode cX7_init 333 = .ok (.bipush 114, 2) := by decide +kernel
theorem dX7_init_335 : decode cX7_init 335 = .ok (.iastore, 1) := by decide +kernel
theorem dX7_init_336 : decode cX7_init 336 = .ok (.dup, 1) := by decide +kernel
theorem dX7_init_337 : decode cX7_init 337 = .ok (.bipush 35, 2) := by decide +kernel
theorem dX7_init_339 : decode cX7_init 339 = .ok (.bipush 101, 2) := by decide +kernel
theorem dX7_init_341 : decode cX7_init 341 = .ok (.iastore, 1) := by decide +kernel
theorem dX7_init_342 : decode cX7_init 342 = .ok (.dup, 1) := by decide +kernel
theorem dX7_init_343 : decode cX7_init 343 = .ok (.bipush 36, 2) := by decide +kernel
theorem dX7_init_345 : decode cX7_init 345 = .ok (.bipush 99, 2) := by decide +kernel
theorem dX7_init_347 : decode cX7_init 347 = .ok (.iastore, 1) := by decide +kernel
theorem dX7_init_348 : decode cX7_init 348 = .ok (.dup, 1) := by decide +kernel
theorem dX7_init_349 : decode cX7_init 349 = .ok (.bipush 37, 2) := by decide +kernel
theorem dX7_init_351 : decode cX7_init 351 = .ok (.bipush 97, 2) := by decide +kernel
theorem dX7_init_353 : decode cX7_init 353 = .ok (.iastore, 1) := by decide +kernel
theorem dX7_init_354 : decode cX7_init 354 = .ok (.dup, 1) := by decide +kernel
theorem dX7_init_355 : decode cX7_init 355 = .ok (.bipush 38, 2) := by decide +kernel
theorem dX7_init_357 : decode cX7_init 357 = .ok (.bipush 115, 2) := by decide +kernel
theorem dX7_init_359 : decode cX7_init 359 = .ok (.iastore, 1) := by decide +kernel
theorem dX7_init_360 : decode cX7_init 360 = .ok (.dup, 1) := by decide +kernel
theorem dX7_init_361 : decode cX7_init 361 = .ok (.bipush 39, 2) := by decide +kernel
theorem dX7_init_363 : decode cX7_init 363 = .ok (.bipush 101, 2) := by decide +kernel
theorem dX7_init_365 : decode cX7_init 365 = .ok (.iastore, 1) := by decide +kernel
theorem dX7_init_366 : decode cX7_init 366 = .ok (.dup, 1) := by decide +kernel
theorem dX7_init_367 : decode cX7_init 367 = .ok (.bipush 40, 2) := by decide +kernel
theorem dX7_init_369 : decode cX7_init 369 = .ok (.bipush 100, 2) := by decide +kernel
theorem dX7_init_371 : decode cX7_init 371 = .ok (.iastore, 1) := by decide +kernel
theorem dX7_init_372 : decode cX7_init 372 = .ok (.dup, 1) := by decide +kernel
theorem dX7_init_373 : decode cX7_init 373 = .ok (.bipush 41, 2) := by decide +kernel
theorem dX7_init_375 : decode cX7_init 375 = .ok (.bipush 114, 2) := by decide +kernel
theorem dX7_init_377 : decode cX7_init 377 = .ok (.iastore, 1) := by decide +kernel
theorem dX7_init_378 : decode cX7_init 378 = .ok (.dup, 1) := by decide +kernel
theorem dX7_init_379 : decode cX7_init 379 = .ok (.bipush 42, 2) := by decide +kernel
theorem dX7_init_381 : decode cX7_init 381 = .ok (.bipush 97, 2) := by decide +kernel
theorem dX7_init_383 : decode cX7_init 383 = .ok (.iastore, 1) := by decide +kernel
theorem dX7_init_384 : decode cX7_init 384 = .ok (.dup, 1) := by decide +kernel
theorem dX7_init_385 : decode cX7_init 385 = .ok (.bipush 43, 2) := by decide +kernel
theorem dX7_init_387 : decode cX7_init 387 = .ok (.bipush 117, 2) := by decide +kernel
theorem dX7_init_389 : decode cX7_init 389 = .ok (.iastore, 1) := by decide +kernel
theorem dX7_init_390 : decode cX7_init 390 = .ok (.dup, 1) := by decide +kernel
theorem dX7_init_391 : decode cX7_init 391 = .ok (.bipush 44, 2) := by decide +kernel
theorem dX7_init_393 : decode cX7_init 393 = .ok (.bipush 103, 2) := by decide +kernel
theorem dX7_init_395 : decode cX7_init 395 = .ok (.iastore, 1) := by decide +kernel
theorem dX7_init_396 : decode cX7_init 396 = .ok (.dup, 1) := by decide +kernel
theorem dX7_init_397 : decode cX7_init 397 = .ok (.bipush 45, 2) := by decide +kernel
theorem dX7_init_399 : decode cX7_init 399 = .ok (.bipush 104, 2) := by decide +kernel
theorem dX7_init_401 : decode cX7_init 401 = .ok (.iastore, 1) := by decide +kernel
theorem dX7_init_402 : decode cX7_init 402 = .ok (.dup, 1) := by decide +kernel
theorem dX7_init_403 : decode cX7_init 403 = .ok (.bipush 46, 2) := by decide +kernel
theorem dX7_init_405 : decode cX7_init 405 = .ok (.bipush 116, 2) := by decide +kernel
theorem dX7_init_407 : decode cX7_init 407 = .ok (.iastore, 1) := by decide +kernel
theorem dX7_init_408 : decode cX7_init 408 = .ok (.dup, 1) := by decide +kernel
theorem dX7_init_409 : decode cX7_init 409 = .ok (.bipush 47, 2) := by decide +kernel
theorem dX7_init_411 : decode cX7_init 411 = .ok (.bipush 100, 2) := by decide +kernel
theorem dX7_init_413 : decode cX7_init 413 = .ok (.iastore, 1) := by decide +kernel
theorem dX7_init_414 : decode cX7_init 414 = .ok (.dup, 1) := by decide +kernel
theorem dX7_init_415 : decode cX7_init 415 = .ok (.bipush 48, 2) := by decide +kernel
theorem dX7_init_417 : decode cX7_init 417 = .ok (.bipush 111, 2) := by decide +kernel
theorem dX7_init_419 : decode cX7_init 419 = .ok (.iastore, 1) := by decide +kernel
theorem dX7_init_420 : decode cX7_init 420 = .ok (.dup, 1) := by decide +kernel
theorem dX7_init_421 : decode cX7_init 421 = .ok (.bipush 49, 2) := by decide +kernel
theorem dX7_init_423 : decode cX7_init 423 = .ok (.bipush 99, 2) := by decide +kernel
theorem dX7_init_425 : decode cX7_init 425 = .ok (.iastore, 1) := by decide +kernel
theorem dX7_init_426 : decode cX7_init 426 = .ok (.dup, 1) := by decide +kernel
theorem dX7_init_427 : decode cX7_init 427 = .ok (.bipush 50, 2) := by decide +kernel
theorem dX7_init_429 : decode cX7_init 429 = .ok (.bipush 107, 2) := by decide +kernel
theorem dX7_init_431 : decode cX7_init 431 = .ok (.iastore, 1) := by decide +kernel
theorem dX7_init_432 : decode cX7_init 432 = .ok (.dup, 1) := by decide +kernel
theorem dX7_init_433 : decode cX7_init 433 = .ok (.bipush 51, 2) := by decide +kernel
theorem dX7_init_435 : decode cX7_init 435 = .ok (.bipush 101, 2) := by decide +kernel
theorem dX7_init_437 : decode cX7_init 437 = .ok (.iastore, 1) := by decide +kernel
theorem dX7_init_438 : decode cX7_init 438 = .ok (.dup, 1) := by decide +kernel
theorem dX7_init_439 : decode cX7_init 439 = .ok (.bipush 52, 2) := by decide +kernel
theorem dX7_init_441 : decode cX7_init 441 = .ok (.bipush 116, 2) := by decide +kernel
theorem dX7_init_443 : decode cX7_init 443 = .ok (.iastore, 1) := by decide +kernel
theorem dX7_init_444 : decode cX7_init 444 = .ok (.putfield 25, 3) := by decide +kernel
theorem dX7_init_447 : decode cX7_init 447 = .ok (.aload_n 0, 1) := by decide +kernel
theorem dX7_init_448 : decode cX7_init 448 = .ok (.bipush 100, 2) := by decide +kernel
theorem dX7_init_450 : decode cX7_init 450 = .ok (.newarray .int, 2) := by decide +kernel
theorem dX7_init_452 : decode cX7_init 452 = .ok (.putfield 28, 3) := by decide +kernel
theorem dX7_init_455 : decode cX7_init 455 = .ok (.aload_n 0, 1) := by decide +kernel
theorem dX7_init_456 : decode cX7_init 456 = .ok (.bipush 18, 2) := by decide +kernel
theorem dX7_init_458 : decode cX7_init 458 = .ok (.newarray .int, 2) := by decide +kernel
theorem dX7_init_460 : decode cX7_init 460 = .ok (.putfield 31, 3) := by decide +kernel
theorem dX7_init_463 : decode cX7_init 463 = .ok (.aload_n 0, 1) := by decide +kernel
theorem dX7_init_464 : decode cX7_init 464 = .ok (.bipush 16, 2) := by decide +kernel
theorem dX7_init_466 : decode cX7_init 466 = .ok (.newarray .int, 2) := by decide +kernel
theorem dX7_init_468 : decode cX7_init 468 = .ok (.putfield 34, 3) := by decide +kernel
theorem dX7_init_471 : decode cX7_init 471 = .ok (.aload_n 0, 1) := by decide +kernel
theorem dX7_init_472 : decode cX7_init 472 = .ok (.iconst 2, 1) := by decide +kernel
theorem dX7_init_473 : decode cX7_init 473 = .ok (.newarray .boolean, 2) := by decide +kernel
theorem dX7_init_475 : decode cX7_init 475 = .ok (.putfield 37, 3) := by decide +kernel
theorem dX7_init_478 : decode cX7_init 478 = .ok (.aload_n 0, 1) := by decide +kernel
theorem dX7_init_479 : decode cX7_init 479 = .ok (.iconst 4, 1) := by decide +kernel
theorem dX7_init_480 : decode cX7_init 480 = .ok (.newarray .int, 2) := by decide +kernel
theorem dX7_init_482 : decode cX7_init 482 = .ok (.dup, 1) := by decide +kernel
theorem dX7_init_483 : decode cX7_init 483 = .ok (.iconst 0, 1) := by decide +kernel
theorem dX7_init_484 : decode cX7_init 484 = .ok (.bipush (-4), 2) := by decide +kernel
theorem dX7_init_486 : decode cX7_init 486 = .ok (.iastore, 1) := by decide +kernel
theorem dX7_init_487 : decode cX7_init 487 = .ok (.dup, 1) := by decide +kernel
theorem dX7_init_488 : decode cX7_init 488 = .ok (.iconst 1, 1) := by decide +kernel
theorem dX7_init_489 : decode cX7_init 489 = .ok (.bipush (-4), 2) := by decide +kernel
theorem dX7_init_491 : decode cX7_init 491 = .ok (.iastore, 1) := by decide +kernel
theorem dX7_init_492 : decode cX7_init 492 = .ok (.dup, 1) := by decide +kernel
theorem dX7_init_493 : decode cX7_init 493 = .ok (.iconst 2, 1) := by decide +kernel
theorem dX7_init_494 : decode cX7_init 494 = .ok (.bipush (-4), 2) := by decide +kernel
theorem dX7_init_496 : decode cX7_init 496 = .ok (.iastore, 1) := by decide +kernel
theorem dX7_init_497 : decode cX7_init 497 = .ok (.dup, 1) := by decide +kernel
theorem dX7_init_498 : decode cX7_init 498 = .ok (.iconst 3, 1) := by decide +kernel
theorem dX7_init_499 : decode cX7_init 499 = .ok (.bipush (-4), 2) := by decide +kernel
theorem dX7_init_501 : decode cX7_init 501 = .ok (.iastore, 1) := by decide +kernel
theorem dX7_init_502 : decode cX7_init 502 = .ok (.putfield 41, 3) := by decide +kernel
theorem dX7_init_505 : decode cX7_init 505 = .ok (.aload_n 0, 1) := by decide +kernel
theorem dX7_init_506 : decode cX7_init 506 = .ok (.iconst 4, 1) := by decide +kernel
theorem dX7_init_507 : decode cX7_init 507 = .ok (.newarray .int, 2) := by decide +kernel
theorem dX7_init_509 : decode cX7_init 509 = .ok (.putfield 44, 3) := by decide +kernel
theorem dX7_init_512 : decode cX7_init 512 = .ok (.aload_n 0, 1) := by decide +kernel
theorem dX7_init_513 : decode cX7_init 513 = .ok (.sipush 160, 3) := by decide +kernel
theorem dX7_init_516 : decode cX7_init 516 = .ok (.newarray .int, 2) := by decide +kernel
theorem dX7_init_518 : decode cX7_init 518 = .ok (.putfield 47, 3) := by decide +kernel
theorem dX7_init_521 : decode cX7_init 521 = .ok (.return_, 1) := by decide +kernel
theorem dX7_in_0 : decode cX7_in 0 = .ok (.lload_n 0, 1) := by decide +kernel
theorem dX7_in_1 : decode cX7_in 1 = .ok (.lload_n 2, 1) := by decide +kernel
theorem dX7_in_2 : decode cX7_in 2 = .ok (.lcmp, 1) := by decide +kernel
theorem dX7_in_3 : decode cX7_in 3 = .ok (.ifCond .lt 14, 3) := by decide +kernel
theorem dX7_in_6 : decode cX7_in 6 = .ok (.lload_n 0, 1) := by decide +kernel
theorem dX7_in_7 : decode cX7_in 7 = .ok (.lload 4, 2) := by decide +kernel
theorem dX7_in_9 : decode cX7_in 9 = .ok (.lcmp, 1) := by decide +kernel
theorem dX7_in_10 : decode cX7_in 10 = .ok (.ifCond .gt 7, 3) := by decide +kernel
theorem dX7_in_13 : decode cX7_in 13 = .ok (.iconst 1, 1) := by decide +kernel
theorem dX7_in_14 : decode cX7_in 14 = .ok (.goto 4, 3) := by decide +kernel
theorem dX7_in_17 : decode cX7_in 17 = .ok (.iconst 0, 1) := by decide +kernel
theorem dX7_in_18 : decode cX7_in 18 = .ok (.ireturn, 1) := by decide +kernel
set_option maxRecDepth 20000 in
theorem ggX7_feed_X7_in : GoodIn wsX7_feed wsX7_in := goodIn_r _ [7] (by decide +kernel) (by decide +kernel)
set_option maxRecDepth 20000 in
theorem gX7_feed_X7_in : GoodIn wsX7_feed (va_wsS RX7 52 yX7_in wsX7_in) := goodIn_app (goodIn_of _ (by decide +kernel)) ggX7_feed_X7_in
theorem dX7_feed_0 : decode cX7_feed 0 = .ok (.iload_n 1, 1) := by decide +kernel
theorem dX7_feed_1 : decode cX7_feed 1 = .ok (.i2l, 1) := by decide +kernel
theorem dX7_feed_2 : decode cX7_feed 2 = .ok (.lconst 0, 1) := by decide +kernel
theorem dX7_feed_3 : decode cX7_feed 3 = .ok (.ldc2_w 50, 3) := by decide +kernel
theorem dX7_feed_6 : decode cX7_feed 6 = .ok (.invokestatic 52, 3) := by decide +kernel
theorem dX7_feed_9 : decode cX7_feed 9 = .ok (.ifCond .ne 5, 3) := by decide +kernel
theorem dX7_feed_12 : decode cX7_feed 12 = .ok (.iconst (-1), 1) := by decide +kernel
theorem dX7_feed_13 : decode cX7_feed 13 = .ok (.ireturn, 1) := by decide +kernel
theorem dX7_feed_14 : decode cX7_feed 14 = .ok (.aload_n 0, 1) := by decide +kernel
theorem dX7_feed_15 : decode cX7_feed 15 = .ok (.getfield 56, 3) := by decide +kernel
theorem dX7_feed_18 : decode cX7_feed 18 = .ok (.sipush 160, 3) := by decide +kernel
theorem dX7_feed_21 : decode cX7_feed 21 = .ok (.if_icmp .ne 6, 3) := by decide +kernel
theorem dX7_feed_24 : decode cX7_feed 24 = .ok (.bipush (-3), 2) := by decide +kernel
theorem dX7_feed_26 : decode cX7_feed 26 = .ok (.ireturn, 1) := by decide +kernel
theorem dX7_feed_27 : decode cX7_feed 27 = .ok (.aload_n 0, 1) := by decide +kernel
theorem dX7_feed_28 : decode cX7_feed 28 = .ok (.getfield 19, 3) := by decide +kernel
theorem dX7_feed_31 : decode cX7_feed 31 = .ok (.aload_n 0, 1) := by decide +kernel
theorem dX7_feed_32 : decode cX7_feed 32 = .ok (.getfield 56, 3) := by decide +kernel
theorem dX7_feed_35 : decode cX7_feed 35 = .ok (.iload_n 1, 1) := by decide +kernel
theorem dX7_feed_36 : decode cX7_feed 36 = .ok (.iastore, 1) := by decide +kernel
theorem dX7_feed_37 : decode cX7_feed 37 = .ok (.aload_n 0, 1) := by decide +kernel
theorem dX7_feed_38 : decode cX7_feed 38 = .ok (.dup, 1) := by decide +kernel
theorem dX7_feed_39 : decode cX7_feed 39 = .ok (.getfield 56, 3) := by decide +kernel
theorem dX7_feed_42 : decode cX7_feed 42 = .ok (.iconst 1, 1) := by decide +kernel
theorem dX7_feed_43 : decode cX7_feed 43 = .ok (.iadd, 1) := by decide +kernel
theorem dX7_feed_44 : decode cX7_feed 44 = .ok (.putfield 56, 3) := by decide +kernel
theorem dX7_feed_47 : decode cX7_feed 47 = .ok (.aload_n 0, 1) := by decide +kernel
theorem dX7_feed_48 : decode cX7_feed 48 = .ok (.getfield 56, 3) := by decide +kernel
theorem dX7_feed_51 : decode cX7_feed 51 = .ok (.ireturn, 1) := by decide +kernel
set_option maxRecDepth 20000 in
theorem ggX7_end_X7_in : GoodIn wsX7_end wsX7_in := goodIn_r _ [5] (by decide +kernel) (by decide +kernel)
set_option maxRecDepth 20000 in
theorem gX7_end_X7_in : GoodIn wsX7_end (va_wsS RX7 52 yX7_in wsX7_in) := goodIn_app (goodIn_of _ (by decide +kernel)) ggX7_end_X7_in
theorem dX7_end_0 : decode cX7_end 0 = .ok (.iload_n 1, 1) := by decide +kernel
theorem dX7_end_1 : decode cX7_end 1 = .ok (.i2l, 1) := by decide +kernel
theorem dX7_end_2 : decode cX7_end 2 = .ok (.lconst 0, 1) := by decide +kernel
theorem dX7_end_3 : decode cX7_end 3 = .ok (.aload_n 0, 1) := by decide +kernel
theorem dX7_end_4 : decode cX7_end 4 = .ok (.getfield 56, 3) := by decide +kernel
theorem dX7_end_7 : decode cX7_end 7 = .ok (.i2l, 1) := by decide +kernel
theorem dX7_end_8 : decode cX7_end 8 = .ok (.invokestatic 52, 3) := by decide +kernel
theorem dX7_end_11 : decode cX7_end 11 = .ok (.ifCond .ne 5, 3) := by decide +kernel
theorem dX7_end_14 : decode cX7_end 14 = .ok (.iconst (-1), 1) := by decide +kernel
theorem dX7_end_15 : decode cX7_end 15 = .ok (.ireturn, 1) := by decide +kernel
theorem dX7_end_16 : decode cX7_end 16 = .ok (.aload_n 0, 1) := by decide +kernel
theorem dX7_end_17 : decode cX7_end 17 = .ok (.getfield 56, 3) := by decide +kernel
theorem dX7_end_20 : decode cX7_end 20 = .ok (.istore_n 2, 1) := by decide +kernel
theorem dX7_end_21 : decode cX7_end 21 = .ok (.aload_n 0, 1) := by decide +kernel
theorem dX7_end_22 : decode cX7_end 22 = .ok (.iload_n 1, 1) := by decide +kernel
theorem dX7_end_23 : decode cX7_end 23 = .ok (.putfield 56, 3) := by decide +kernel
theorem dX7_end_26 : decode cX7_end 26 = .ok (.iload_n 2, 1) := by decide +kernel
theorem dX7_end_27 : decode cX7_end 27 = .ok (.ireturn, 1) := by decide +kernel
theorem dX7_byteAt_0 : decode cX7_byteAt 0 = .ok (.iload_n 1, 1) := by decide +kernel
theorem dX7_byteAt_1 : decode cX7_byteAt 1 = .ok (.aload_n 0, 1) := by decide +kernel
theorem dX7_byteAt_2 : decode cX7_byteAt 2 = .ok (.getfield 56, 3) := by decide +kernel
theorem dX7_byteAt_5 : decode cX7_byteAt 5 = .ok (.if_icmp .ge 12, 3) := by decide +kernel
theorem dX7_byteAt_8 : decode cX7_byteAt 8 = .ok (.aload_n 0, 1) := by decide +kernel
theorem dX7_byteAt_9 : decode cX7_byteAt 9 = .ok (.getfield 19, 3) := by decide +kernel
theorem dX7_byteAt_12 : decode cX7_byteAt 12 = .ok (.iload_n 1, 1) := by decide +kernel
theorem dX7_byteAt_13 : decode cX7_byteAt 13 = .ok (.iaload, 1) := by decide +kernel
theorem dX7_byteAt_14 : decode cX7_byteAt 14 = .ok (.goto 5, 3) := by decide +kernel
theorem dX7_byteAt_17 : decode cX7_byteAt 17 = .ok (.bipush (-4), 2) := by decide +kernel
theorem dX7_byteAt_19 : decode cX7_byteAt 19 = .ok (.ireturn, 1) := by decide +kernel
theorem dX7_fails_0 : decode cX7_fails 0 = .ok (.aload_n 0, 1) := by decide +kernel
theorem dX7_fails_1 : decode cX7_fails 1 = .ok (.getfield 60, 3) := by decide +kernel
theorem dX7_fails_4 : decode cX7_fails 4 = .ok (.ifCond .ne 16, 3) := by decide +kernel
theorem dX7_fails_7 : decode cX7_fails 7 = .ok (.aload_n 0, 1) := by decide +kernel
theorem dX7_fails_8 : decode cX7_fails 8 = .ok (.iload_n 1, 1) := by decide +kernel
theorem dX7_fails_9 : decode cX7_fails 9 = .ok (.putfield 60, 3) := by decide +kernel
theorem dX7_fails_12 : decode cX7_fails 12 = .ok (.aload_n 0, 1) := by decide +kernel
theorem dX7_fails_13 : decode cX7_fails 13 = .ok (.aload_n 0, 1) := by decide +kernel
theorem dX7_fails_14 : decode cX7_fails 14 = .ok (.getfield 63, 3) := by decide +kernel
theorem dX7_fails_17 : decode cX7_fails 17 = .ok (.putfield 66, 3) := by decide +kernel
theorem dX7_fails_20 : decode cX7_fails 20 = .ok (.return_, 1) := by decide +kernel
set_option maxRecDepth 20000 in
theorem ggX7_nameHere_X7_byteAt : GoodIn wsX7_nameHere wsX7_byteAt := goodIn_r _ [10, 11, 12, 13, 14, 15, 16, 17, 18, 19, 20, 21, 22, 23, 24, 25, 26, 27, 28, 29, 30, 31, 32, 33, 34, 35, 36, 37, 38, 39, 40, 41, 42, 43, 44, 45, 46, 47, 48] (by decide +kernel) (by decide +kernel)
set_option maxRecDepth 20000 in
theorem gX7_nameHere_X7_byteAt : GoodIn wsX7_nameHere (wsV RX7 75 RX7 yX7_byteAt wsX7_byteAt) := goodIn_app (goodIn_of _ (by decide +kernel)) ggX7_nameHere_X7_byteAt
theorem dX7_nameHere_0 : decode cX7_nameHere 0 = .ok (.iconst 0, 1) := by decide +kernel
theorem dX7_nameHere_1 : decode cX7_nameHere 1 = .ok (.istore_n 1, 1) := by decide +kernel
theorem dX7_nameHere_2 : decode cX7_nameHere 2 = .ok (.iload_n 1, 1) := by decide +kernel
theorem dX7_nameHere_3 : decode cX7_nameHere 3 = .ok (.bipush 11, 2) := by decide +kernel
theorem dX7_nameHere_5 : decode cX7_nameHere 5 = .ok (.if_icmp .ge 113, 3) := by decide +kernel
theorem dX7_nameHere_8 : decode cX7_nameHere 8 = .ok (.aload_n 0, 1) := by decide +kernel
theorem dX7_nameHere_9 : decode cX7_nameHere 9 = .ok (.getfield 69, 3) := by decide +kernel
theorem dX7_nameHere_12 : decode cX7_nameHere 12 = .ok (.iconst 1, 1) := by decide +kernel
theorem dX7_nameHere_13 : decode cX7_nameHere 13 = .ok (.if_icmp .ne 105, 3) := by decide +kernel
theorem dX7_nameHere_16 : decode cX7_nameHere 16 = .ok (.aload_n 0, 1) := by decide +kernel
theorem dX7_nameHere_17 : decode cX7_nameHere 17 = .ok (.getfield 72, 3) := by decide +kernel
theorem dX7_nameHere_20 : decode cX7_nameHere 20 = .ok (.aload_n 0, 1) := by decide +kernel
theorem dX7_nameHere_21 : decode cX7_nameHere 21 = .ok (.getfield 63, 3) := by decide +kernel
theorem dX7_nameHere_24 : decode cX7_nameHere 24 = .ok (.isub, 1) := by decide +kernel
theorem dX7_nameHere_25 : decode cX7_nameHere 25 = .ok (.aload_n 0, 1) := by decide +kernel
theorem dX7_nameHere_26 : decode cX7_nameHere 26 = .ok (.getfield 22, 3) := by decide +kernel
theorem dX7_nameHere_29 : decode cX7_nameHere 29 = .ok (.iload_n 1, 1) := by decide +kernel
theorem dX7_nameHere_30 : decode cX7_nameHere 30 = .ok (.iconst 1, 1) := by decide +kernel
theorem dX7_nameHere_31 : decode cX7_nameHere 31 = .ok (.iadd, 1) := by decide +kernel
theorem dX7_nameHere_32 : decode cX7_nameHere 32 = .ok (.iaload, 1) := by decide +kernel
theorem dX7_nameHere_33 : decode cX7_nameHere 33 = .ok (.aload_n 0, 1) := by decide +kernel
theorem dX7_nameHere_34 : decode cX7_nameHere 34 = .ok (.getfield 22, 3) := by decide +kernel
theorem dX7_nameHere_37 : decode cX7_nameHere 37 = .ok (.iload_n 1, 1) := by decide +kernel
theorem dX7_nameHere_38 : decode cX7_nameHere 38 = .ok (.iaload, 1) := by decide +kernel
theorem dX7_nameHere_39 : decode cX7_nameHere 39 = .ok (.isub, 1) := by decide +kernel
theorem dX7_nameHere_40 : decode cX7_nameHere 40 = .ok (.if_icmp .ne 7, 3) := by decide +kernel
theorem dX7_nameHere_43 : decode cX7_nameHere 43 = .ok (.iconst 1, 1) := by decide +kernel
theorem dX7_nameHere_44 : decode cX7_nameHere 44 = .ok (.goto 4, 3) := by decide +kernel
theorem dX7_nameHere_47 : decode cX7_nameHere 47 = .ok (.iconst 0, 1) := by decide +kernel
theorem dX7_nameHere_48 : decode cX7_nameHere 48 = .ok (.istore_n 2, 1) := by decide +kernel
theorem dX7_nameHere_49 : decode cX7_nameHere 49 = .ok (.iconst 0, 1) := by decide +kernel
theorem dX7_nameHere_50 : decode cX7_nameHere 50 = .ok (.istore_n 3, 1) := by decide +kernel
theorem dX7_nameHere_51 : decode cX7_nameHere 51 = .ok (.iload_n 2, 1) := by decide +kernel
theorem dX7_nameHere_52 : decode cX7_nameHere 52 = .ok (.ifCond .eq 54, 3) := by decide +kernel
theorem dX7_nameHere_55 : decode cX7_nameHere 55 = .ok (.iload_n 3, 1) := by decide +kernel
theorem dX7_nameHere_56 : decode cX7_nameHere 56 = .ok (.aload_n 0, 1) := by decide +kernel
theorem dX7_nameHere_57 : decode cX7_nameHere 57 = .ok (.getfield 72, 3) := by decide +kernel
theorem dX7_nameHere_60 : decode cX7_nameHere 60 = .ok (.aload_n 0, 1) := by decide +kernel
theorem dX7_nameHere_61 : decode cX7_nameHere 61 = .ok (.getfield 63, 3) := by decide +kernel
theorem dX7_nameHere_64 : decode cX7_nameHere 64 = .ok (.isub, 1) := by decide +kernel
theorem dX7_nameHere_65 : decode cX7_nameHere 65 = .ok (.if_icmp .ge 41, 3) := by decide +kernel
theorem dX7_nameHere_68 : decode cX7_nameHere 68 = .ok (.aload_n 0, 1) := by decide +kernel
theorem dX7_nameHere_69 : decode cX7_nameHere 69 = .ok (.aload_n 0, 1) := by decide +kernel
theorem dX7_nameHere_70 : decode cX7_nameHere 70 = .ok (.getfield 63, 3) := by decide +kernel
theorem dX7_nameHere_73 : decode cX7_nameHere 73 = .ok (.iload_n 3, 1) := by decide +kernel
theorem dX7_nameHere_74 : decode cX7_nameHere 74 = .ok (.iadd, 1) := by decide +kernel
theorem dX7_nameHere_75 : decode cX7_nameHere 75 = .ok (.invokevirtual 75, 3) := by decide +kernel
theorem dX7_nameHere_78 : decode cX7_nameHere 78 = .ok (.aload_n 0, 1) := by decide +kernel
theorem dX7_nameHere_79 : decode cX7_nameHere 79 = .ok (.getfield 25, 3) := by decide +kernel
theorem dX7_nameHere_82 : decode cX7_nameHere 82 = .ok (.aload_n 0, 1) := by decide +kernel
theorem dX7_nameHere_83 : decode cX7_nameHere 83 = .ok (.getfield 22, 3) := by decide +kernel
theorem dX7_nameHere_86 : decode cX7_nameHere 86 = .ok (.iload_n 1, 1) := by decide +kernel
theorem dX7_nameHere_87 : decode cX7_nameHere 87 = .ok (.iaload, 1) := by decide +kernel
theorem dX7_nameHere_88 : decode cX7_nameHere 88 = .ok (.iload_n 3, 1) := by decide +kernel
theorem dX7_nameHere_89 : decode cX7_nameHere 89 = .ok (.iadd, 1) := by decide +kernel
theorem dX7_nameHere_90 : decode cX7_nameHere 90 = .ok (.iaload, 1) := by decide +kernel
theorem dX7_nameHere_91 : decode cX7_nameHere 91 = .ok (.if_icmp .ne 7, 3) := by decide +kernel
theorem dX7_nameHere_94 : decode cX7_nameHere 94 = .ok (.iconst 1, 1) := by decide +kernel
theorem dX7_nameHere_95 : decode cX7_nameHere 95 = .ok (.goto 4, 3) := by decide +kernel
theorem dX7_nameHere_98 : decode cX7_nameHere 98 = .ok (.iconst 0, 1) := by decide +kernel
theorem dX7_nameHere_99 : decode cX7_nameHere 99 = .ok (.istore_n 2, 1) := by decide +kernel
theorem dX7_nameHere_100 : decode cX7_nameHere 100 = .ok (.iinc 3 1, 3) := by decide +kernel
theorem dX7_nameHere_103 : decode cX7_nameHere 103 = .ok (.goto (-52), 3) := by decide +kernel
theorem dX7_nameHere_106 : decode cX7_nameHere 106 = .ok (.iload_n 2, 1) := by decide +kernel
theorem dX7_nameHere_107 : decode cX7_nameHere 107 = .ok (.ifCond .eq 5, 3) := by decide +kernel
theorem dX7_nameHere_110 : decode cX7_nameHere 110 = .ok (.iload_n 1, 1) := by decide +kernel
theorem dX7_nameHere_111 : decode cX7_nameHere 111 = .ok (.ireturn, 1) := by decide +kernel
theorem dX7_nameHere_112 : decode cX7_nameHere 112 = .ok (.iinc 1 1, 3) := by decide +kernel
theorem dX7_nameHere_115 : decode cX7_nameHere 115 = .ok (.goto (-113), 3) := by decide +kernel
theorem dX7_nameHere_118 : decode cX7_nameHere 118 = .ok (.bipush (-4), 2) := by decide +kernel
theorem dX7_nameHere_120 : decode cX7_nameHere 120 = .ok (.ireturn, 1) := by decide +kernel
set_option maxRecDepth 20000 in
theorem ggX7_step_X7_byteAt : GoodIn wsX7_step wsX7_byteAt := goodIn_r _ [14, 15, 16, 25, 26, 27, 28, 29, 30, 31, 32, 33, 34, 35, 36, 37, 38, 39, 40, 41, 42, 43, 44, 45, 46, 47, 48, 49, 50, 51, 52, 53, 54, 55, 56, 57, 58, 59, 60] (by decide +kernel) (by decide +kernel)
set_option maxRecDepth 20000 in
theorem gX7_step_X7_byteAt : GoodIn wsX7_step (wsV RX7 75 RX7 yX7_byteAt wsX7_byteAt) := goodIn_app (goodIn_of _ (by decide +kernel)) ggX7_step_X7_byteAt
set_option maxRecDepth 20000 in
theorem ggX7_step_X7_in : GoodIn wsX7_step wsX7_in := goodIn_r _ [19] (by decide +kernel) (by decide +kernel)
set_option maxRecDepth 20000 in
theorem gX7_step_X7_in : GoodIn wsX7_step (va_wsS RX7 52 yX7_in wsX7_in) := goodIn_app (goodIn_of _ (by decide +kernel)) ggX7_step_X7_in
set_option maxRecDepth 20000 in
theorem ggX7_step_X7_fails : GoodIn wsX7_step wsX7_fails := goodIn_r _ [23, 1, 3, 24, 25, 26, 27, 28, 29, 30, 31, 32, 33, 34, 35, 36, 37, 38, 39, 40, 41, 42, 43, 44, 45, 46, 47, 48, 49, 50, 51, 52, 53, 54, 55, 56, 57, 58, 59, 60] (by decide +kernel) (by decide +kernel)
set_option maxRecDepth 20000 in
theorem gX7_step_X7_fails : GoodIn wsX7_step (wsV RX7 90 RX7 yX7_fails wsX7_fails) := goodIn_app (goodIn_of _ (by decide +kernel)) ggX7_step_X7_fails
theorem dX7_step_0 : decode cX7_step 0 = .ok (.aload_n 0, 1) := by decide +kernel
theorem dX7_step_1 : decode cX7_step 1 = .ok (.getfield 60, 3) := by decide +kernel
theorem dX7_step_4 : decode cX7_step 4 = .ok (.ifCond .le 4, 3) := by decide +kernel
theorem dX7_step_7 : decode cX7_step 7 = .ok (.return_, 1) := by decide +kernel
theorem dX7_step_8 : decode cX7_step 8 = .ok (.aload_n 0, 1) := by decide +kernel
theorem dX7_step_9 : decode cX7_step 9 = .ok (.aload_n 0, 1) := by decide +kernel
theorem dX7_step_10 : decode cX7_step 10 = .ok (.getfield 72, 3) := by decide +kernel
theorem dX7_step_13 : decode cX7_step 13 = .ok (.invokevirtual 75, 3) := by decide +kernel
theorem dX7_step_16 : decode cX7_step 16 = .ok (.bipush 32, 2) := by decide +kernel
theorem dX7_step_18 : decode cX7_step 18 = .ok (.if_icmp .ne 16, 3) := by decide +kernel
theorem dX7_step_21 : decode cX7_step 21 = .ok (.aload_n 0, 1) := by decide +kernel
theorem dX7_step_22 : decode cX7_step 22 = .ok (.dup, 1) := by decide +kernel
theorem dX7_step_23 : decode cX7_step 23 = .ok (.getfield 72, 3) := by decide +kernel
theorem dX7_step_26 : decode cX7_step 26 = .ok (.iconst 1, 1) := by decide +kernel
theorem dX7_step_27 : decode cX7_step 27 = .ok (.iadd, 1) := by decide +kernel
theorem dX7_step_28 : decode cX7_step 28 = .ok (.putfield 72, 3) := by decide +kernel
theorem dX7_step_31 : decode cX7_step 31 = .ok (.goto (-23), 3) := by decide +kernel
theorem dX7_step_34 : decode cX7_step 34 = .ok (.aload_n 0, 1) := by decide +kernel
theorem dX7_step_35 : decode cX7_step 35 = .ok (.aload_n 0, 1) := by decide +kernel
theorem dX7_step_36 : decode cX7_step 36 = .ok (.getfield 72, 3) := by decide +kernel
theorem dX7_step_39 : decode cX7_step 39 = .ok (.putfield 63, 3) := by decide +kernel
theorem dX7_step_42 : decode cX7_step 42 = .ok (.aload_n 0, 1) := by decide +kernel
theorem dX7_step_43 : decode cX7_step 43 = .ok (.aload_n 0, 1) := by decide +kernel
theorem dX7_step_44 : decode cX7_step 44 = .ok (.getfield 72, 3) := by decide +kernel
theorem dX7_step_47 : decode cX7_step 47 = .ok (.invokevirtual 75, 3) := by decide +kernel
theorem dX7_step_50 : decode cX7_step 50 = .ok (.istore_n 1, 1) := by decide +kernel
theorem dX7_step_51 : decode cX7_step 51 = .ok (.aload_n 0, 1) := by decide +kernel
theorem dX7_step_52 : decode cX7_step 52 = .ok (.iconst 0, 1) := by decide +kernel
theorem dX7_step_53 : decode cX7_step 53 = .ok (.putfield 79, 3) := by decide +kernel
theorem dX7_step_56 : decode cX7_step 56 = .ok (.iload_n 1, 1) := by decide +kernel
theorem dX7_step_57 : decode cX7_step 57 = .ok (.bipush (-4), 2) := by decide +kernel
theorem dX7_step_59 : decode cX7_step 59 = .ok (.if_icmp .ne 11, 3) := by decide +kernel
theorem dX7_step_62 : decode cX7_step 62 = .ok (.aload_n 0, 1) := by decide +kernel
theorem dX7_step_63 : decode cX7_step 63 = .ok (.iconst 0, 1) := by decide +kernel
theorem dX7_step_64 : decode cX7_step 64 = .ok (.putfield 69, 3) := by decide +kernel
theorem dX7_step_67 : decode cX7_step 67 = .ok (.goto 202, 3) := by decide +kernel
theorem dX7_step_70 : decode cX7_step 70 = .ok (.iload_n 1, 1) := by decide +kernel
theorem dX7_step_71 : decode cX7_step 71 = .ok (.i2l, 1) := by decide +kernel
theorem dX7_step_72 : decode cX7_step 72 = .ok (.ldc2_w 82, 3) := by decide +kernel
theorem dX7_step_75 : decode cX7_step 75 = .ok (.ldc2_w 84, 3) := by decide +kernel
theorem dX7_step_78 : decode cX7_step 78 = .ok (.invokestatic 52, 3) := by decide +kernel
theorem dX7_step_81 : decode cX7_step 81 = .ok (.ifCond .eq 45, 3) := by decide +kernel
theorem dX7_step_84 : decode cX7_step 84 = .ok (.aload_n 0, 1) := by decide +kernel
theorem dX7_step_85 : decode cX7_step 85 = .ok (.aload_n 0, 1) := by decide +kernel
theorem dX7_step_86 : decode cX7_step 86 = .ok (.getfield 72, 3) := by decide +kernel
theorem dX7_step_89 : decode cX7_step 89 = .ok (.invokevirtual 75, 3) := by decide +kernel
theorem dX7_step_92 : decode cX7_step 92 = .ok (.i2l, 1) := by decide +kernel
theorem dX7_step_93 : decode cX7_step 93 = .ok (.ldc2_w 82, 3) := by decide +kernel
theorem dX7_step_96 : decode cX7_step 96 = .ok (.ldc2_w 84, 3) := by decide +kernel
theorem dX7_step_99 : decode cX7_step 99 = .ok (.invokestatic 52, 3) := by decide +kernel
theorem dX7_step_102 : decode cX7_step 102 = .ok (.ifCond .eq 16, 3) := by decide +kernel
theorem dX7_step_105 : decode cX7_step 105 = .ok (.aload_n 0, 1) := by decide +kernel
theorem dX7_step_106 : decode cX7_step 106 = .ok (.dup, 1) := by decide +kernel
theorem dX7_step_107 : decode cX7_step 107 = .ok (.getfield 72, 3) := by decide +kernel
theorem dX7_step_110 : decode cX7_step 110 = .ok (.iconst 1, 1) := by decide +kernel
theorem dX7_step_111 : decode cX7_step 111 = .ok (.iadd, 1) := by decide +kernel
theorem dX7_step_112 : decode cX7_step 112 = .ok (.putfield 72, 3) := by decide +kernel
theorem dX7_step_115 : decode cX7_step 115 = .ok (.goto (-31), 3) := by decide +kernel
theorem dX7_step_118 : decode cX7_step 118 = .ok (.aload_n 0, 1) := by decide +kernel
theorem dX7_step_119 : decode cX7_step 119 = .ok (.iconst 1, 1) := by decide +kernel
theorem dX7_step_120 : decode cX7_step 120 = .ok (.putfield 69, 3) := by decide +kernel
theorem dX7_step_123 : decode cX7_step 123 = .ok (.goto 146, 3) := by decide +kernel
theorem dX7_step_126 : decode cX7_step 126 = .ok (.iload_n 1, 1) := by decide +kernel
theorem dX7_step_127 : decode cX7_step 127 = .ok (.i2l, 1) := by decide +kernel
theorem dX7_step_128 : decode cX7_step 128 = .ok (.ldc2_w 86, 3) := by decide +kernel
theorem dX7_step_131 : decode cX7_step 131 = .ok (.ldc2_w 88, 3) := by decide +kernel
theorem dX7_step_134 : decode cX7_step 134 = .ok (.invokestatic 52, 3) := by decide +kernel
theorem dX7_step_137 : decode cX7_step 137 = .ok (.ifCond .eq 106, 3) := by decide +kernel
theorem dX7_step_140 : decode cX7_step 140 = .ok (.aload_n 0, 1) := by decide +kernel
theorem dX7_step_141 : decode cX7_step 141 = .ok (.aload_n 0, 1) := by decide +kernel
theorem dX7_step_142 : decode cX7_step 142 = .ok (.getfield 72, 3) := by decide +kernel
theorem dX7_step_145 : decode cX7_step 145 = .ok (.invokevirtual 75, 3) := by decide +kernel
theorem dX7_step_148 : decode cX7_step 148 = .ok (.i2l, 1) := by decide +kernel
theorem dX7_step_149 : decode cX7_step 149 = .ok (.ldc2_w 86, 3) := by decide +kernel
theorem dX7_step_152 : decode cX7_step 152 = .ok (.ldc2_w 88, 3) := by decide +kernel
theorem dX7_step_155 : decode cX7_step 155 = .ok (.invokestatic 52, 3) := by decide +kernel
theorem dX7_step_158 : decode cX7_step 158 = .ok (.ifCond .eq 59, 3) := by decide +kernel
theorem dX7_step_161 : decode cX7_step 161 = .ok (.aload_n 0, 1) := by decide +kernel
theorem dX7_step_162 : decode cX7_step 162 = .ok (.aload_n 0, 1) := by decide +kernel
theorem dX7_step_163 : decode cX7_step 163 = .ok (.getfield 72, 3) := by decide +kernel
theorem dX7_step_166 : decode cX7_step 166 = .ok (.aload_n 0, 1) := by decide +kernel
theorem dX7_step_167 : decode cX7_step 167 = .ok (.getfield 63, 3) := by decide +kernel
theorem dX7_step_170 : decode cX7_step 170 = .ok (.isub, 1) := by decide +kernel
theorem dX7_step_171 : decode cX7_step 171 = .ok (.iconst 2, 1) := by decide +kernel
theorem dX7_step_172 : decode cX7_step 172 = .ok (.if_icmp .ge 25, 3) := by decide +kernel
theorem dX7_step_175 : decode cX7_step 175 = .ok (.bipush 10, 2) := by decide +kernel
theorem dX7_step_177 : decode cX7_step 177 = .ok (.aload_n 0, 1) := by decide +kernel
theorem dX7_step_178 : decode cX7_step 178 = .ok (.getfield 79, 3) := by decide +kernel
theorem dX7_step_181 : decode cX7_step 181 = .ok (.imul, 1) := by decide +kernel
theorem dX7_step_182 : decode cX7_step 182 = .ok (.aload_n 0, 1) := by decide +kernel
theorem dX7_step_183 : decode cX7_step 183 = .ok (.aload_n 0, 1) := by decide +kernel
theorem dX7_step_184 : decode cX7_step 184 = .ok (.getfield 72, 3) := by decide +kernel
theorem dX7_step_187 : decode cX7_step 187 = .ok (.invokevirtual 75, 3) := by decide +kernel
theorem dX7_step_190 : decode cX7_step 190 = .ok (.iadd, 1) := by decide +kernel
theorem dX7_step_191 : decode cX7_step 191 = .ok (.bipush 48, 2) := by decide +kernel
theorem dX7_step_193 : decode cX7_step 193 = .ok (.isub, 1) := by decide +kernel
theorem dX7_step_194 : decode cX7_step 194 = .ok (.goto 7, 3) := by decide +kernel
theorem dX7_step_197 : decode cX7_step 197 = .ok (.aload_n 0, 1) := by decide +kernel
theorem dX7_step_198 : decode cX7_step 198 = .ok (.getfield 79, 3) := by decide +kernel
theorem dX7_step_201 : decode cX7_step 201 = .ok (.putfield 79, 3) := by decide +kernel
theorem dX7_step_204 : decode cX7_step 204 = .ok (.aload_n 0, 1) := by decide +kernel
theorem dX7_step_205 : decode cX7_step 205 = .ok (.dup, 1) := by decide +kernel
theorem dX7_step_206 : decode cX7_step 206 = .ok (.getfield 72, 3) := by decide +kernel
theorem dX7_step_209 : decode cX7_step 209 = .ok (.iconst 1, 1) := by decide +kernel
theorem dX7_step_210 : decode cX7_step 210 = .ok (.iadd, 1) := by decide +kernel
theorem dX7_step_211 : decode cX7_step 211 = .ok (.putfield 72, 3) := by decide +kernel
theorem dX7_step_214 : decode cX7_step 214 = .ok (.goto (-74), 3) := by decide +kernel
theorem dX7_step_217 : decode cX7_step 217 = .ok (.aload_n 0, 1) := by decide +kernel
theorem dX7_step_218 : decode cX7_step 218 = .ok (.iconst 2, 1) := by decide +kernel
theorem dX7_step_219 : decode cX7_step 219 = .ok (.putfield 69, 3) := by decide +kernel
theorem dX7_step_222 : decode cX7_step 222 = .ok (.aload_n 0, 1) := by decide +kernel
theorem dX7_step_223 : decode cX7_step 223 = .ok (.getfield 72, 3) := by decide +kernel
theorem dX7_step_226 : decode cX7_step 226 = .ok (.aload_n 0, 1) := by decide +kernel
theorem dX7_step_227 : decode cX7_step 227 = .ok (.getfield 63, 3) := by decide +kernel
theorem dX7_step_230 : decode cX7_step 230 = .ok (.isub, 1) := by decide +kernel
theorem dX7_step_231 : decode cX7_step 231 = .ok (.iconst 2, 1) := by decide +kernel
theorem dX7_step_232 : decode cX7_step 232 = .ok (.if_icmp .le 37, 3) := by decide +kernel
theorem dX7_step_235 : decode cX7_step 235 = .ok (.aload_n 0, 1) := by decide +kernel
theorem dX7_step_236 : decode cX7_step 236 = .ok (.iconst 1, 1) := by decide +kernel
theorem dX7_step_237 : decode cX7_step 237 = .ok (.invokevirtual 90, 3) := by decide +kernel
theorem dX7_step_240 : decode cX7_step 240 = .ok (.goto 29, 3) := by decide +kernel
theorem dX7_step_243 : decode cX7_step 243 = .ok (.aload_n 0, 1) := by decide +kernel
theorem dX7_step_244 : decode cX7_step 244 = .ok (.iconst 3, 1) := by decide +kernel
theorem dX7_step_245 : decode cX7_step 245 = .ok (.putfield 69, 3) := by decide +kernel
theorem dX7_step_248 : decode cX7_step 248 = .ok (.aload_n 0, 1) := by decide +kernel
theorem dX7_step_249 : decode cX7_step 249 = .ok (.dup, 1) := by decide +kernel
theorem dX7_step_250 : decode cX7_step 250 = .ok (.getfield 72, 3) := by decide +kernel
theorem dX7_step_253 : decode cX7_step 253 = .ok (.iconst 1, 1) := by decide +kernel
theorem dX7_step_254 : decode cX7_step 254 = .ok (.iadd, 1) := by decide +kernel
theorem dX7_step_255 : decode cX7_step 255 = .ok (.putfield 72, 3) := by decide +kernel
theorem dX7_step_258 : decode cX7_step 258 = .ok (.iload_n 1, 1) := by decide +kernel
theorem dX7_step_259 : decode cX7_step 259 = .ok (.bipush 59, 2) := by decide +kernel
theorem dX7_step_261 : decode cX7_step 261 = .ok (.if_icmp .eq 8, 3) := by decide +kernel
theorem dX7_step_264 : decode cX7_step 264 = .ok (.aload_n 0, 1) := by decide +kernel
theorem dX7_step_265 : decode cX7_step 265 = .ok (.iconst 1, 1) := by decide +kernel
theorem dX7_step_266 : decode cX7_step 266 = .ok (.invokevirtual 90, 3) := by decide +kernel
theorem dX7_step_269 : decode cX7_step 269 = .ok (.return_, 1) := by decide +kernel
set_option maxRecDepth 20000 in
theorem ggX7_number_X7_fails : GoodIn wsX7_number wsX7_fails := goodIn_r _ [8, 1, 9, 10, 29, 30, 31, 32, 33, 34, 35, 36, 37, 38, 39, 40, 41, 42, 43, 44, 45, 46, 47, 48, 49, 50, 51, 52, 53, 54, 55, 56, 57, 58, 59, 60, 61, 62, 63, 64] (by decide +kernel) (by decide +kernel)
set_option maxRecDepth 20000 in
theorem gX7_number_X7_fails : GoodIn wsX7_number (wsV RX7 90 RX7 yX7_fails wsX7_fails) := goodIn_app (goodIn_of _ (by decide +kernel)) ggX7_number_X7_fails
set_option maxRecDepth 20000 in
theorem ggX7_number_X7_in : GoodIn wsX7_number wsX7_in := goodIn_r _ [13] (by decide +kernel) (by decide +kernel)
set_option maxRecDepth 20000 in
theorem gX7_number_X7_in : GoodIn wsX7_number (va_wsS RX7 52 yX7_in wsX7_in) := goodIn_app (goodIn_of _ (by decide +kernel)) ggX7_number_X7_in
set_option maxRecDepth 20000 in
theorem ggX7_number_X7_step : GoodIn wsX7_number wsX7_step := goodIn_r _ [17, 1, 18, 9, 3, 2, 19, 20, 21, 22, 23, 24, 25, 7, 26, 27, 28, 11, 12, 13, 4, 5, 6, 8, 10, 29, 30, 31, 32, 33, 34, 35, 36, 37, 38, 39, 40, 41, 42, 43, 44, 45, 46, 47, 48, 49, 50, 51, 52, 53, 54, 55, 56, 57, 58, 59, 60, 61, 62, 63, 64] (by decide +kernel) (by decide +kernel)
set_option maxRecDepth 20000 in
theorem gX7_number_X7_step : GoodIn wsX7_number (wsV RX7 94 RX7 yX7_step wsX7_step) := goodIn_app (goodIn_of _ (by decide +kernel)) ggX7_number_X7_step
theorem dX7_number_0 : decode cX7_number 0 = .ok (.aload_n 0, 1) := by decide +kernel
theorem dX7_number_1 : decode cX7_number 1 = .ok (.getfield 60, 3) := by decide +kernel
theorem dX7_number_4 : decode cX7_number 4 = .ok (.ifCond .ne 16, 3) := by decide +kernel
theorem dX7_number_7 : decode cX7_number 7 = .ok (.aload_n 0, 1) := by decide +kernel
theorem dX7_number_8 : decode cX7_number 8 = .ok (.getfield 69, 3) := by decide +kernel
theorem dX7_number_11 : decode cX7_number 11 = .ok (.iconst 2, 1) := by decide +kernel
theorem dX7_number_12 : decode cX7_number 12 = .ok (.if_icmp .eq 8, 3) := by decide +kernel
theorem dX7_number_15 : decode cX7_number 15 = .ok (.aload_n 0, 1) := by decide +kernel
theorem dX7_number_16 : decode cX7_number 16 = .ok (.iconst 2, 1) := by decide +kernel
theorem dX7_number_17 : decode cX7_number 17 = .ok (.invokevirtual 90, 3) := by decide +kernel
theorem dX7_number_20 : decode cX7_number 20 = .ok (.aload_n 0, 1) := by decide +kernel
theorem dX7_number_21 : decode cX7_number 21 = .ok (.getfield 60, 3) := by decide +kernel
theorem dX7_number_24 : decode cX7_number 24 = .ok (.ifCond .ne 23, 3) := by decide +kernel
theorem dX7_number_27 : decode cX7_number 27 = .ok (.aload_n 0, 1) := by decide +kernel
theorem dX7_number_28 : decode cX7_number 28 = .ok (.getfield 79, 3) := by decide +kernel
theorem dX7_number_31 : decode cX7_number 31 = .ok (.i2l, 1) := by decide +kernel
theorem dX7_number_32 : decode cX7_number 32 = .ok (.iload_n 1, 1) := by decide +kernel
theorem dX7_number_33 : decode cX7_number 33 = .ok (.i2l, 1) := by decide +kernel
theorem dX7_number_34 : decode cX7_number 34 = .ok (.iload_n 2, 1) := by decide +kernel
theorem dX7_number_35 : decode cX7_number 35 = .ok (.i2l, 1) := by decide +kernel
theorem dX7_number_36 : decode cX7_number 36 = .ok (.invokestatic 52, 3) := by decide +kernel
theorem dX7_number_39 : decode cX7_number 39 = .ok (.ifCond .ne 8, 3) := by decide +kernel
theorem dX7_number_42 : decode cX7_number 42 = .ok (.aload_n 0, 1) := by decide +kernel
theorem dX7_number_43 : decode cX7_number 43 = .ok (.iconst 3, 1) := by decide +kernel
theorem dX7_number_44 : decode cX7_number 44 = .ok (.invokevirtual 90, 3) := by decide +kernel
theorem dX7_number_47 : decode cX7_number 47 = .ok (.aload_n 0, 1) := by decide +kernel
theorem dX7_number_48 : decode cX7_number 48 = .ok (.getfield 60, 3) := by decide +kernel
theorem dX7_number_51 : decode cX7_number 51 = .ok (.ifCond .ne 10, 3) := by decide +kernel
theorem dX7_number_54 : decode cX7_number 54 = .ok (.aload_n 0, 1) := by decide +kernel
theorem dX7_number_55 : decode cX7_number 55 = .ok (.getfield 79, 3) := by decide +kernel
theorem dX7_number_58 : decode cX7_number 58 = .ok (.goto 4, 3) := by decide +kernel
theorem dX7_number_61 : decode cX7_number 61 = .ok (.iload_n 1, 1) := by decide +kernel
theorem dX7_number_62 : decode cX7_number 62 = .ok (.istore_n 3, 1) := by decide +kernel
theorem dX7_number_63 : decode cX7_number 63 = .ok (.aload_n 0, 1) := by decide +kernel
theorem dX7_number_64 : decode cX7_number 64 = .ok (.invokevirtual 94, 3) := by decide +kernel
theorem dX7_number_67 : decode cX7_number 67 = .ok (.iload_n 3, 1) := by decide +kernel
theorem dX7_number_68 : decode cX7_number 68 = .ok (.ireturn, 1) := by decide +kernel
set_option maxRecDepth 20000 in
theorem ggX7_readFlame_X7_nameHere : GoodIn wsX7_readFlame wsX7_nameHere := goodIn_r _ [9, 4, 10, 11, 12, 13, 14, 15, 16, 8, 17, 18, 19, 41, 42, 43, 44, 45, 46, 47, 48, 49, 50, 51, 52, 53, 54, 55, 56, 57, 58, 59, 60, 61, 62, 63, 64, 65, 66, 67, 68, 69, 70, 71, 72, 73, 74, 75, 76] (by decide +kernel) (by decide +kernel)
set_option maxRecDepth 20000 in
theorem gX7_readFlame_X7_nameHere : GoodIn wsX7_readFlame (wsV RX7 97 RX7 yX7_nameHere wsX7_nameHere) := goodIn_app (goodIn_of _ (by decide +kernel)) ggX7_readFlame_X7_nameHere
set_option maxRecDepth 20000 in
theorem ggX7_readFlame_X7_in : GoodIn wsX7_readFlame wsX7_in := goodIn_r _ [22] (by decide +kernel) (by decide +kernel)
set_option maxRecDepth 20000 in
theorem gX7_readFlame_X7_in : GoodIn wsX7_readFlame (va_wsS RX7 52 yX7_in wsX7_in) := goodIn_app (goodIn_of _ (by decide +kernel)) ggX7_readFlame_X7_in
set_option maxRecDepth 20000 in
theorem ggX7_readFlame_X7_fails : GoodIn wsX7_readFlame wsX7_fails := goodIn_r _ [26, 1, 11, 27, 41, 42, 43, 44, 45, 46, 47, 48, 49, 50, 51, 52, 53, 54, 55, 56, 57, 58, 59, 60, 61, 62, 63, 64, 65, 66, 67, 68, 69, 70, 71, 72, 73, 74, 75, 76] (by decide +kernel) (by decide +kernel)
set_option maxRecDepth 20000 in
theorem gX7_readFlame_X7_fails : GoodIn wsX7_readFlame (wsV RX7 90 RX7 yX7_fails wsX7_fails) := goodIn_app (goodIn_of _ (by decide +kernel)) ggX7_readFlame_X7_fails
set_option maxRecDepth 20000 in
theorem ggX7_readFlame_X7_step : GoodIn wsX7_readFlame wsX7_step := goodIn_r _ [31, 1, 10, 11, 32, 4, 33, 34, 35, 36, 14, 15, 16, 8, 17, 18, 19, 20, 21, 22, 23, 24, 25, 26, 27, 41, 42, 43, 44, 45, 46, 47, 48, 49, 50, 51, 52, 53, 54, 55, 56, 57, 58, 59, 60, 61, 62, 63, 64, 65, 66, 67, 68, 69, 70, 71, 72, 73, 74, 75, 76] (by decide +kernel) (by decide +kernel)
set_option maxRecDepth 20000 in
theorem gX7_readFlame_X7_step : GoodIn wsX7_readFlame (wsV RX7 94 RX7 yX7_step wsX7_step) := goodIn_app (goodIn_of _ (by decide +kernel)) ggX7_readFlame_X7_step
set_option maxRecDepth 20000 in
theorem ggX7_readFlame_X7_number : GoodIn wsX7_readFlame wsX7_number := goodIn_r _ [40, 1, 4, 32, 23, 24, 25, 8, 26, 11, 27, 20, 21, 22, 28, 29, 30, 31, 10, 33, 34, 35, 36, 14, 15, 16, 17, 18, 19, 41, 42, 43, 44, 45, 46, 47, 48, 49, 50, 51, 52, 53, 54, 55, 56, 57, 58, 59, 60, 61, 62, 63, 64, 65, 66, 67, 68, 69, 70, 71, 72, 73, 74, 75, 76] (by decide +kernel) (by decide +kernel)
set_option maxRecDepth 20000 in
theorem gX7_readFlame_X7_number : GoodIn wsX7_readFlame (wsV RX7 103 RX7 yX7_number wsX7_number) := goodIn_app (goodIn_of _ (by decide +kernel)) ggX7_readFlame_X7_number
theorem dX7_readFlame_0 : decode cX7_readFlame 0 = .ok (.aload_n 0, 1) := by decide +kernel
theorem dX7_readFlame_1 : decode cX7_readFlame 1 = .ok (.getfield 60, 3) := by decide +kernel
theorem dX7_readFlame_4 : decode cX7_readFlame 4 = .ok (.ifCond .le 8, 3) := by decide +kernel
theorem dX7_readFlame_7 : decode cX7_readFlame 7 = .ok (.bipush (-4), 2) := by decide +kernel
theorem dX7_readFlame_9 : decode cX7_readFlame 9 = .ok (.goto 7, 3) := by decide +kernel
theorem dX7_readFlame_12 : decode cX7_readFlame 12 = .ok (.aload_n 0, 1) := by decide +kernel
theorem dX7_readFlame_13 : decode cX7_readFlame 13 = .ok (.invokevirtual 97, 3) := by decide +kernel
theorem dX7_readFlame_16 : decode cX7_readFlame 16 = .ok (.istore_n 2, 1) := by decide +kernel
theorem dX7_readFlame_17 : decode cX7_readFlame 17 = .ok (.iload_n 2, 1) := by decide +kernel
theorem dX7_readFlame_18 : decode cX7_readFlame 18 = .ok (.i2l, 1) := by decide +kernel
theorem dX7_readFlame_19 : decode cX7_readFlame 19 = .ok (.lconst 0, 1) := by decide +kernel
theorem dX7_readFlame_20 : decode cX7_readFlame 20 = .ok (.ldc2_w 101, 3) := by decide +kernel
theorem dX7_readFlame_23 : decode cX7_readFlame 23 = .ok (.invokestatic 52, 3) := by decide +kernel
theorem dX7_readFlame_26 : decode cX7_readFlame 26 = .ok (.ifCond .ne 9, 3) := by decide +kernel
theorem dX7_readFlame_29 : decode cX7_readFlame 29 = .ok (.aload_n 0, 1) := by decide +kernel
theorem dX7_readFlame_30 : decode cX7_readFlame 30 = .ok (.iconst 2, 1) := by decide +kernel
theorem dX7_readFlame_31 : decode cX7_readFlame 31 = .ok (.invokevirtual 90, 3) := by decide +kernel
theorem dX7_readFlame_34 : decode cX7_readFlame 34 = .ok (.return_, 1) := by decide +kernel
theorem dX7_readFlame_35 : decode cX7_readFlame 35 = .ok (.aload_n 0, 1) := by decide +kernel
theorem dX7_readFlame_36 : decode cX7_readFlame 36 = .ok (.getfield 16, 3) := by decide +kernel
theorem dX7_readFlame_39 : decode cX7_readFlame 39 = .ok (.iload_n 1, 1) := by decide +kernel
theorem dX7_readFlame_40 : decode cX7_readFlame 40 = .ok (.iload_n 2, 1) := by decide +kernel
theorem dX7_readFlame_41 : decode cX7_readFlame 41 = .ok (.iastore, 1) := by decide +kernel
theorem dX7_readFlame_42 : decode cX7_readFlame 42 = .ok (.aload_n 0, 1) := by decide +kernel
theorem dX7_readFlame_43 : decode cX7_readFlame 43 = .ok (.invokevirtual 94, 3) := by decide +kernel
theorem dX7_readFlame_46 : decode cX7_readFlame 46 = .ok (.aload_n 0, 1) := by decide +kernel
theorem dX7_readFlame_47 : decode cX7_readFlame 47 = .ok (.getfield 16, 3) := by decide +kernel
theorem dX7_readFlame_50 : decode cX7_readFlame 50 = .ok (.bipush 8, 2) := by decide +kernel
theorem dX7_readFlame_52 : decode cX7_readFlame 52 = .ok (.iload_n 1, 1) := by decide +kernel
theorem dX7_readFlame_53 : decode cX7_readFlame 53 = .ok (.iadd, 1) := by decide +kernel
theorem dX7_readFlame_54 : decode cX7_readFlame 54 = .ok (.aload_n 0, 1) := by decide +kernel
theorem dX7_readFlame_55 : decode cX7_readFlame 55 = .ok (.iconst 0, 1) := by decide +kernel
theorem dX7_readFlame_56 : decode cX7_readFlame 56 = .ok (.bipush 99, 2) := by decide +kernel
theorem dX7_readFlame_58 : decode cX7_readFlame 58 = .ok (.invokevirtual 103, 3) := by decide +kernel
theorem dX7_readFlame_61 : decode cX7_readFlame 61 = .ok (.iastore, 1) := by decide +kernel
theorem dX7_readFlame_62 : decode cX7_readFlame 62 = .ok (.aload_n 0, 1) := by decide +kernel
theorem dX7_readFlame_63 : decode cX7_readFlame 63 = .ok (.getfield 60, 3) := by decide +kernel
theorem dX7_readFlame_66 : decode cX7_readFlame 66 = .ok (.ifCond .ne 27, 3) := by decide +kernel
theorem dX7_readFlame_69 : decode cX7_readFlame 69 = .ok (.aload_n 0, 1) := by decide +kernel
theorem dX7_readFlame_70 : decode cX7_readFlame 70 = .ok (.getfield 69, 3) := by decide +kernel
theorem dX7_readFlame_73 : decode cX7_readFlame 73 = .ok (.iconst 2, 1) := by decide +kernel
theorem dX7_readFlame_74 : decode cX7_readFlame 74 = .ok (.if_icmp .ne 19, 3) := by decide +kernel
theorem dX7_readFlame_77 : decode cX7_readFlame 77 = .ok (.aload_n 0, 1) := by decide +kernel
theorem dX7_readFlame_78 : decode cX7_readFlame 78 = .ok (.getfield 16, 3) := by decide +kernel
theorem dX7_readFlame_81 : decode cX7_readFlame 81 = .ok (.bipush 16, 2) := by decide +kernel
theorem dX7_readFlame_83 : decode cX7_readFlame 83 = .ok (.iload_n 1, 1) := by decide +kernel
theorem dX7_readFlame_84 : decode cX7_readFlame 84 = .ok (.iadd, 1) := by decide +kernel
theorem dX7_readFlame_85 : decode cX7_readFlame 85 = .ok (.aload_n 0, 1) := by decide +kernel
theorem dX7_readFlame_86 : decode cX7_readFlame 86 = .ok (.iconst 0, 1) := by decide +kernel
theorem dX7_readFlame_87 : decode cX7_readFlame 87 = .ok (.bipush 9, 2) := by decide +kernel
theorem dX7_readFlame_89 : decode cX7_readFlame 89 = .ok (.invokevirtual 103, 3) := by decide +kernel
theorem dX7_readFlame_92 : decode cX7_readFlame 92 = .ok (.iastore, 1) := by decide +kernel
theorem dX7_readFlame_93 : decode cX7_readFlame 93 = .ok (.return_, 1) := by decide +kernel
set_option maxRecDepth 20000 in
theorem ggX7_readDocket_X7_fails : GoodIn wsX7_readDocket wsX7_fails := goodIn_r _ [10, 1, 11, 12, 36, 37, 38, 39, 40, 41, 42, 43, 44, 45, 46, 47, 48, 49, 50, 51, 52, 53, 54, 55, 56, 57, 58, 59, 60, 61, 62, 63, 64, 65, 66, 67, 68, 69, 70, 71] (by decide +kernel) (by decide +kernel)
set_option maxRecDepth 20000 in
theorem gX7_readDocket_X7_fails : GoodIn wsX7_readDocket (wsV RX7 90 RX7 yX7_fails wsX7_fails) := goodIn_app (goodIn_of _ (by decide +kernel)) ggX7_readDocket_X7_fails
set_option maxRecDepth 20000 in
theorem ggX7_readDocket_X7_number : GoodIn wsX7_readDocket wsX7_number := goodIn_r _ [16, 1, 2, 17, 6, 7, 8, 9, 10, 11, 12, 18, 19, 20, 21, 22, 23, 24, 25, 26, 27, 28, 29, 30, 31, 32, 33, 34, 35, 36, 37, 38, 39, 40, 41, 42, 43, 44, 45, 46, 47, 48, 49, 50, 51, 52, 53, 54, 55, 56, 57, 58, 59, 60, 61, 62, 63, 64, 65, 66, 67, 68, 69, 70, 71] (by decide +kernel) (by decide +kernel)
set_option maxRecDepth 20000 in
theorem gX7_readDocket_X7_number : GoodIn wsX7_readDocket (wsV RX7 103 RX7 yX7_number wsX7_number) := goodIn_app (goodIn_of _ (by decide +kernel)) ggX7_readDocket_X7_number
theorem dX7_readDocket_0 : decode cX7_readDocket 0 = .ok (.aload_n 0, 1) := by decide +kernel
theorem dX7_readDocket_1 : decode cX7_readDocket 1 = .ok (.getfield 60, 3) := by decide +kernel
theorem dX7_readDocket_4 : decode cX7_readDocket 4 = .ok (.ifCond .ne 131, 3) := by decide +kernel
theorem dX7_readDocket_7 : decode cX7_readDocket 7 = .ok (.aload_n 0, 1) := by decide +kernel
theorem dX7_readDocket_8 : decode cX7_readDocket 8 = .ok (.getfield 69, 3) := by decide +kernel
theorem dX7_readDocket_11 : decode cX7_readDocket 11 = .ok (.iconst 2, 1) := by decide +kernel
theorem dX7_readDocket_12 : decode cX7_readDocket 12 = .ok (.if_icmp .ne 123, 3) := by decide +kernel
theorem dX7_readDocket_15 : decode cX7_readDocket 15 = .ok (.aload_n 0, 1) := by decide +kernel
theorem dX7_readDocket_16 : decode cX7_readDocket 16 = .ok (.getfield 16, 3) := by decide +kernel
theorem dX7_readDocket_19 : decode cX7_readDocket 19 = .ok (.bipush 55, 2) := by decide +kernel
theorem dX7_readDocket_21 : decode cX7_readDocket 21 = .ok (.iaload, 1) := by decide +kernel
theorem dX7_readDocket_22 : decode cX7_readDocket 22 = .ok (.bipush 6, 2) := by decide +kernel
theorem dX7_readDocket_24 : decode cX7_readDocket 24 = .ok (.if_icmp .ne 11, 3) := by decide +kernel
theorem dX7_readDocket_27 : decode cX7_readDocket 27 = .ok (.aload_n 0, 1) := by decide +kernel
theorem dX7_readDocket_28 : decode cX7_readDocket 28 = .ok (.iconst 5, 1) := by decide +kernel
theorem dX7_readDocket_29 : decode cX7_readDocket 29 = .ok (.invokevirtual 90, 3) := by decide +kernel
theorem dX7_readDocket_32 : decode cX7_readDocket 32 = .ok (.goto (-32), 3) := by decide +kernel
theorem dX7_readDocket_35 : decode cX7_readDocket 35 = .ok (.aload_n 0, 1) := by decide +kernel
theorem dX7_readDocket_36 : decode cX7_readDocket 36 = .ok (.iconst 0, 1) := by decide +kernel
theorem dX7_readDocket_37 : decode cX7_readDocket 37 = .ok (.iconst 3, 1) := by decide +kernel
theorem dX7_readDocket_38 : decode cX7_readDocket 38 = .ok (.invokevirtual 103, 3) := by decide +kernel
theorem dX7_readDocket_41 : decode cX7_readDocket 41 = .ok (.istore_n 1, 1) := by decide +kernel
theorem dX7_readDocket_42 : decode cX7_readDocket 42 = .ok (.aload_n 0, 1) := by decide +kernel
theorem dX7_readDocket_43 : decode cX7_readDocket 43 = .ok (.iconst 0, 1) := by decide +kernel
theorem dX7_readDocket_44 : decode cX7_readDocket 44 = .ok (.iconst 2, 1) := by decide +kernel
theorem dX7_readDocket_45 : decode cX7_readDocket 45 = .ok (.invokevirtual 103, 3) := by decide +kernel
theorem dX7_readDocket_48 : decode cX7_readDocket 48 = .ok (.istore_n 2, 1) := by decide +kernel
theorem dX7_readDocket_49 : decode cX7_readDocket 49 = .ok (.aload_n 0, 1) := by decide +kernel
theorem dX7_readDocket_50 : decode cX7_readDocket 50 = .ok (.iload_n 1, 1) := by decide +kernel
theorem dX7_readDocket_51 : decode cX7_readDocket 51 = .ok (.aload_n 0, 1) := by decide +kernel
theorem dX7_readDocket_52 : decode cX7_readDocket 52 = .ok (.getfield 107, 3) := by decide +kernel
theorem dX7_readDocket_55 : decode cX7_readDocket 55 = .ok (.if_icmp .le 7, 3) := by decide +kernel
theorem dX7_readDocket_58 : decode cX7_readDocket 58 = .ok (.iload_n 1, 1) := by decide +kernel
theorem dX7_readDocket_59 : decode cX7_readDocket 59 = .ok (.goto 7, 3) := by decide +kernel
theorem dX7_readDocket_62 : decode cX7_readDocket 62 = .ok (.aload_n 0, 1) := by decide +kernel
theorem dX7_readDocket_63 : decode cX7_readDocket 63 = .ok (.getfield 107, 3) := by decide +kernel
theorem dX7_readDocket_66 : decode cX7_readDocket 66 = .ok (.putfield 107, 3) := by decide +kernel
theorem dX7_readDocket_69 : decode cX7_readDocket 69 = .ok (.aload_n 0, 1) := by decide +kernel
theorem dX7_readDocket_70 : decode cX7_readDocket 70 = .ok (.iload_n 2, 1) := by decide +kernel
theorem dX7_readDocket_71 : decode cX7_readDocket 71 = .ok (.aload_n 0, 1) := by decide +kernel
theorem dX7_readDocket_72 : decode cX7_readDocket 72 = .ok (.getfield 110, 3) := by decide +kernel
theorem dX7_readDocket_75 : decode cX7_readDocket 75 = .ok (.if_icmp .le 7, 3) := by decide +kernel
theorem dX7_readDocket_78 : decode cX7_readDocket 78 = .ok (.iload_n 2, 1) := by decide +kernel
theorem dX7_readDocket_79 : decode cX7_readDocket 79 = .ok (.goto 7, 3) := by decide +kernel
theorem dX7_readDocket_82 : decode cX7_readDocket 82 = .ok (.aload_n 0, 1) := by decide +kernel
theorem dX7_readDocket_83 : decode cX7_readDocket 83 = .ok (.getfield 110, 3) := by decide +kernel
theorem dX7_readDocket_86 : decode cX7_readDocket 86 = .ok (.putfield 110, 3) := by decide +kernel
theorem dX7_readDocket_89 : decode cX7_readDocket 89 = .ok (.aload_n 0, 1) := by decide +kernel
theorem dX7_readDocket_90 : decode cX7_readDocket 90 = .ok (.getfield 16, 3) := by decide +kernel
theorem dX7_readDocket_93 : decode cX7_readDocket 93 = .ok (.bipush 56, 2) := by decide +kernel
theorem dX7_readDocket_95 : decode cX7_readDocket 95 = .ok (.aload_n 0, 1) := by decide +kernel
theorem dX7_readDocket_96 : decode cX7_readDocket 96 = .ok (.getfield 16, 3) := by decide +kernel
theorem dX7_readDocket_99 : decode cX7_readDocket 99 = .ok (.bipush 55, 2) := by decide +kernel
theorem dX7_readDocket_101 : decode cX7_readDocket 101 = .ok (.iaload, 1) := by decide +kernel
theorem dX7_readDocket_102 : decode cX7_readDocket 102 = .ok (.iadd, 1) := by decide +kernel
theorem dX7_readDocket_103 : decode cX7_readDocket 103 = .ok (.iload_n 1, 1) := by decide +kernel
theorem dX7_readDocket_104 : decode cX7_readDocket 104 = .ok (.iastore, 1) := by decide +kernel
theorem dX7_readDocket_105 : decode cX7_readDocket 105 = .ok (.aload_n 0, 1) := by decide +kernel
theorem dX7_readDocket_106 : decode cX7_readDocket 106 = .ok (.getfield 16, 3) := by decide +kernel
theorem dX7_readDocket_109 : decode cX7_readDocket 109 = .ok (.bipush 62, 2) := by decide +kernel
theorem dX7_readDocket_111 : decode cX7_readDocket 111 = .ok (.aload_n 0, 1) := by decide +kernel
theorem dX7_readDocket_112 : decode cX7_readDocket 112 = .ok (.getfield 16, 3) := by decide +kernel
theorem dX7_readDocket_115 : decode cX7_readDocket 115 = .ok (.bipush 55, 2) := by decide +kernel
theorem dX7_readDocket_117 : decode cX7_readDocket 117 = .ok (.iaload, 1) := by decide +kernel
theorem dX7_readDocket_118 : decode cX7_readDocket 118 = .ok (.iadd, 1) := by decide +kernel
theorem dX7_readDocket_119 : decode cX7_readDocket 119 = .ok (.iload_n 2, 1) := by decide +kernel
theorem dX7_readDocket_120 : decode cX7_readDocket 120 = .ok (.iastore, 1) := by decide +kernel
theorem dX7_readDocket_121 : decode cX7_readDocket 121 = .ok (.aload_n 0, 1) := by decide +kernel
theorem dX7_readDocket_122 : decode cX7_readDocket 122 = .ok (.getfield 16, 3) := by decide +kernel
theorem dX7_readDocket_125 : decode cX7_readDocket 125 = .ok (.bipush 55, 2) := by decide +kernel
theorem dX7_readDocket_127 : decode cX7_readDocket 127 = .ok (.dup2, 1) := by decide +kernel
theorem dX7_readDocket_128 : decode cX7_readDocket 128 = .ok (.iaload, 1) := by decide +kernel
theorem dX7_readDocket_129 : decode cX7_readDocket 129 = .ok (.iconst 1, 1) := by decide +kernel
theorem dX7_readDocket_130 : decode cX7_readDocket 130 = .ok (.iadd, 1) := by decide +kernel
theorem dX7_readDocket_131 : decode cX7_readDocket 131 = .ok (.iastore, 1) := by decide +kernel
theorem dX7_readDocket_132 : decode cX7_readDocket 132 = .ok (.goto (-132), 3) := by decide +kernel
theorem dX7_readDocket_135 : decode cX7_readDocket 135 = .ok (.return_, 1) := by decide +kernel
set_option maxRecDepth 20000 in
theorem ggX7_readMore_X7_readFlame : GoodIn wsX7_readMore wsX7_readFlame := goodIn_r _ [8, 9, 10, 2, 11, 12, 13, 14, 7, 15, 16, 17, 18, 19, 20, 21, 22, 23, 24, 25, 26, 27, 28, 29, 30, 31, 32, 33, 34, 35, 36, 37, 38, 39, 40, 41, 42, 43, 44, 45, 46, 53, 54, 55, 56, 57, 58, 59, 60, 61, 62, 63, 64, 65, 66, 67, 68, 69, 70, 71, 72, 73, 74, 75, 76, 77, 78, 79, 80, 81, 82, 83, 84, 85, 86, 87, 88] (by decide +kernel) (by decide +kernel)
set_option maxRecDepth 20000 in
theorem gX7_readMore_X7_readFlame : GoodIn wsX7_readMore (wsV RX7 116 RX7 yX7_readFlame wsX7_readFlame) := goodIn_app (goodIn_of _ (by decide +kernel)) ggX7_readMore_X7_readFlame
set_option maxRecDepth 20000 in
theorem ggX7_readMore_X7_number : GoodIn wsX7_readMore wsX7_number := goodIn_r _ [46, 9, 11, 38, 29, 30, 31, 7, 32, 17, 33, 26, 27, 28, 34, 35, 36, 37, 16, 39, 40, 41, 42, 20, 21, 22, 23, 24, 25, 53, 54, 55, 56, 57, 58, 59, 60, 61, 62, 63, 64, 65, 66, 67, 68, 69, 70, 71, 72, 73, 74, 75, 76, 77, 78, 79, 80, 81, 82, 83, 84, 85, 86, 87, 88] (by decide +kernel) (by decide +kernel)
set_option maxRecDepth 20000 in
theorem gX7_readMore_X7_number : GoodIn wsX7_readMore (wsV RX7 103 RX7 yX7_number wsX7_number) := goodIn_app (goodIn_of _ (by decide +kernel)) ggX7_readMore_X7_number
set_option maxRecDepth 20000 in
theorem ggX7_readMore_X7_readDocket : GoodIn wsX7_readMore wsX7_readDocket := goodIn_r _ [50, 9, 11, 2, 51, 52, 29, 30, 31, 7, 32, 17, 33, 43, 44, 45, 46, 38, 26, 27, 28, 34, 35, 36, 37, 16, 39, 40, 41, 42, 20, 21, 22, 23, 24, 25, 53, 54, 55, 56, 57, 58, 59, 60, 61, 62, 63, 64, 65, 66, 67, 68, 69, 70, 71, 72, 73, 74, 75, 76, 77, 78, 79, 80, 81, 82, 83, 84, 85, 86, 87, 88] (by decide +kernel) (by decide +kernel)
set_option maxRecDepth 20000 in
theorem gX7_readMore_X7_readDocket : GoodIn wsX7_readMore (wsV RX7 119 RX7 yX7_readDocket wsX7_readDocket) := goodIn_app (goodIn_of _ (by decide +kernel)) ggX7_readMore_X7_readDocket
theorem dX7_readMore_0 : decode cX7_readMore 0 = .ok (.iload_n 1, 1) := by decide +kernel
theorem dX7_readMore_1 : decode cX7_readMore 1 = .ok (.bipush 8, 2) := by decide +kernel
theorem dX7_readMore_3 : decode cX7_readMore 3 = .ok (.if_icmp .ne 38, 3) := by decide +kernel
theorem dX7_readMore_6 : decode cX7_readMore 6 = .ok (.aload_n 0, 1) := by decide +kernel
theorem dX7_readMore_7 : decode cX7_readMore 7 = .ok (.iconst 2, 1) := by decide +kernel
theorem dX7_readMore_8 : decode cX7_readMore 8 = .ok (.aload_n 0, 1) := by decide +kernel
theorem dX7_readMore_9 : decode cX7_readMore 9 = .ok (.getfield 113, 3) := by decide +kernel
theorem dX7_readMore_12 : decode cX7_readMore 12 = .ok (.imul, 1) := by decide +kernel
theorem dX7_readMore_13 : decode cX7_readMore 13 = .ok (.invokevirtual 116, 3) := by decide +kernel
theorem dX7_readMore_16 : decode cX7_readMore 16 = .ok (.aload_n 0, 1) := by decide +kernel
theorem dX7_readMore_17 : decode cX7_readMore 17 = .ok (.iconst 2, 1) := by decide +kernel
theorem dX7_readMore_18 : decode cX7_readMore 18 = .ok (.aload_n 0, 1) := by decide +kernel
theorem dX7_readMore_19 : decode cX7_readMore 19 = .ok (.getfield 113, 3) := by decide +kernel
theorem dX7_readMore_22 : decode cX7_readMore 22 = .ok (.imul, 1) := by decide +kernel
theorem dX7_readMore_23 : decode cX7_readMore 23 = .ok (.iconst 1, 1) := by decide +kernel
theorem dX7_readMore_24 : decode cX7_readMore 24 = .ok (.iadd, 1) := by decide +kernel
theorem dX7_readMore_25 : decode cX7_readMore 25 = .ok (.invokevirtual 116, 3) := by decide +kernel
theorem dX7_readMore_28 : decode cX7_readMore 28 = .ok (.aload_n 0, 1) := by decide +kernel
theorem dX7_readMore_29 : decode cX7_readMore 29 = .ok (.dup, 1) := by decide +kernel
theorem dX7_readMore_30 : decode cX7_readMore 30 = .ok (.getfield 113, 3) := by decide +kernel
theorem dX7_readMore_33 : decode cX7_readMore 33 = .ok (.iconst 1, 1) := by decide +kernel
theorem dX7_readMore_34 : decode cX7_readMore 34 = .ok (.iadd, 1) := by decide +kernel
theorem dX7_readMore_35 : decode cX7_readMore 35 = .ok (.putfield 113, 3) := by decide +kernel
theorem dX7_readMore_38 : decode cX7_readMore 38 = .ok (.goto 124, 3) := by decide +kernel
theorem dX7_readMore_41 : decode cX7_readMore 41 = .ok (.iload_n 1, 1) := by decide +kernel
theorem dX7_readMore_42 : decode cX7_readMore 42 = .ok (.bipush 9, 2) := by decide +kernel
theorem dX7_readMore_44 : decode cX7_readMore 44 = .ok (.if_icmp .ne 61, 3) := by decide +kernel
theorem dX7_readMore_47 : decode cX7_readMore 47 = .ok (.aload_n 0, 1) := by decide +kernel
theorem dX7_readMore_48 : decode cX7_readMore 48 = .ok (.getfield 16, 3) := by decide +kernel
theorem dX7_readMore_51 : decode cX7_readMore 51 = .ok (.bipush 47, 2) := by decide +kernel
theorem dX7_readMore_53 : decode cX7_readMore 53 = .ok (.aload_n 0, 1) := by decide +kernel
theorem dX7_readMore_54 : decode cX7_readMore 54 = .ok (.getfield 16, 3) := by decide +kernel
theorem dX7_readMore_57 : decode cX7_readMore 57 = .ok (.bipush 46, 2) := by decide +kernel
theorem dX7_readMore_59 : decode cX7_readMore 59 = .ok (.iaload, 1) := by decide +kernel
theorem dX7_readMore_60 : decode cX7_readMore 60 = .ok (.iadd, 1) := by decide +kernel
theorem dX7_readMore_61 : decode cX7_readMore 61 = .ok (.aload_n 0, 1) := by decide +kernel
theorem dX7_readMore_62 : decode cX7_readMore 62 = .ok (.iconst 0, 1) := by decide +kernel
theorem dX7_readMore_63 : decode cX7_readMore 63 = .ok (.bipush 20, 2) := by decide +kernel
theorem dX7_readMore_65 : decode cX7_readMore 65 = .ok (.invokevirtual 103, 3) := by decide +kernel
theorem dX7_readMore_68 : decode cX7_readMore 68 = .ok (.iastore, 1) := by decide +kernel
theorem dX7_readMore_69 : decode cX7_readMore 69 = .ok (.aload_n 0, 1) := by decide +kernel
theorem dX7_readMore_70 : decode cX7_readMore 70 = .ok (.getfield 16, 3) := by decide +kernel
theorem dX7_readMore_73 : decode cX7_readMore 73 = .ok (.bipush 51, 2) := by decide +kernel
theorem dX7_readMore_75 : decode cX7_readMore 75 = .ok (.aload_n 0, 1) := by decide +kernel
theorem dX7_readMore_76 : decode cX7_readMore 76 = .ok (.getfield 16, 3) := by decide +kernel
theorem dX7_readMore_79 : decode cX7_readMore 79 = .ok (.bipush 46, 2) := by decide +kernel
theorem dX7_readMore_81 : decode cX7_readMore 81 = .ok (.iaload, 1) := by decide +kernel
theorem dX7_readMore_82 : decode cX7_readMore 82 = .ok (.iadd, 1) := by decide +kernel
theorem dX7_readMore_83 : decode cX7_readMore 83 = .ok (.aload_n 0, 1) := by decide +kernel
theorem dX7_readMore_84 : decode cX7_readMore 84 = .ok (.iconst 1, 1) := by decide +kernel
theorem dX7_readMore_85 : decode cX7_readMore 85 = .ok (.bipush 9, 2) := by decide +kernel
theorem dX7_readMore_87 : decode cX7_readMore 87 = .ok (.invokevirtual 103, 3) := by decide +kernel
theorem dX7_readMore_90 : decode cX7_readMore 90 = .ok (.iastore, 1) := by decide +kernel
theorem dX7_readMore_91 : decode cX7_readMore 91 = .ok (.aload_n 0, 1) := by decide +kernel
theorem dX7_readMore_92 : decode cX7_readMore 92 = .ok (.getfield 16, 3) := by decide +kernel
theorem dX7_readMore_95 : decode cX7_readMore 95 = .ok (.bipush 46, 2) := by decide +kernel
theorem dX7_readMore_97 : decode cX7_readMore 97 = .ok (.dup2, 1) := by decide +kernel
theorem dX7_readMore_98 : decode cX7_readMore 98 = .ok (.iaload, 1) := by decide +kernel
theorem dX7_readMore_99 : decode cX7_readMore 99 = .ok (.iconst 1, 1) := by decide +kernel
theorem dX7_readMore_100 : decode cX7_readMore 100 = .ok (.iadd, 1) := by decide +kernel
theorem dX7_readMore_101 : decode cX7_readMore 101 = .ok (.iastore, 1) := by decide +kernel
theorem dX7_readMore_102 : decode cX7_readMore 102 = .ok (.goto 60, 3) := by decide +kernel
theorem dX7_readMore_105 : decode cX7_readMore 105 = .ok (.iload_n 1, 1) := by decide +kernel
theorem dX7_readMore_106 : decode cX7_readMore 106 = .ok (.bipush 10, 2) := by decide +kernel
theorem dX7_readMore_108 : decode cX7_readMore 108 = .ok (.if_icmp .ne 10, 3) := by decide +kernel
theorem dX7_readMore_111 : decode cX7_readMore 111 = .ok (.aload_n 0, 1) := by decide +kernel
theorem dX7_readMore_112 : decode cX7_readMore 112 = .ok (.invokevirtual 119, 3) := by decide +kernel
theorem dX7_readMore_115 : decode cX7_readMore 115 = .ok (.goto 47, 3) := by decide +kernel
theorem dX7_readMore_118 : decode cX7_readMore 118 = .ok (.aload_n 0, 1) := by decide +kernel
theorem dX7_readMore_119 : decode cX7_readMore 119 = .ok (.getfield 16, 3) := by decide +kernel
theorem dX7_readMore_122 : decode cX7_readMore 122 = .ok (.bipush 40, 2) := by decide +kernel
theorem dX7_readMore_124 : decode cX7_readMore 124 = .ok (.aload_n 0, 1) := by decide +kernel
theorem dX7_readMore_125 : decode cX7_readMore 125 = .ok (.getfield 122, 3) := by decide +kernel
theorem dX7_readMore_128 : decode cX7_readMore 128 = .ok (.iadd, 1) := by decide +kernel
theorem dX7_readMore_129 : decode cX7_readMore 129 = .ok (.iload_n 1, 1) := by decide +kernel
theorem dX7_readMore_130 : decode cX7_readMore 130 = .ok (.iconst 4, 1) := by decide +kernel
theorem dX7_readMore_131 : decode cX7_readMore 131 = .ok (.isub, 1) := by decide +kernel
theorem dX7_readMore_132 : decode cX7_readMore 132 = .ok (.iastore, 1) := by decide +kernel
theorem dX7_readMore_133 : decode cX7_readMore 133 = .ok (.aload_n 0, 1) := by decide +kernel
theorem dX7_readMore_134 : decode cX7_readMore 134 = .ok (.getfield 16, 3) := by decide +kernel
theorem dX7_readMore_137 : decode cX7_readMore 137 = .ok (.bipush 43, 2) := by decide +kernel
theorem dX7_readMore_139 : decode cX7_readMore 139 = .ok (.aload_n 0, 1) := by decide +kernel
theorem dX7_readMore_140 : decode cX7_readMore 140 = .ok (.getfield 122, 3) := by decide +kernel
theorem dX7_readMore_143 : decode cX7_readMore 143 = .ok (.iadd, 1) := by decide +kernel
theorem dX7_readMore_144 : decode cX7_readMore 144 = .ok (.aload_n 0, 1) := by decide +kernel
theorem dX7_readMore_145 : decode cX7_readMore 145 = .ok (.iconst 1, 1) := by decide +kernel
theorem dX7_readMore_146 : decode cX7_readMore 146 = .ok (.bipush 9, 2) := by decide +kernel
theorem dX7_readMore_148 : decode cX7_readMore 148 = .ok (.invokevirtual 103, 3) := by decide +kernel
theorem dX7_readMore_151 : decode cX7_readMore 151 = .ok (.iastore, 1) := by decide +kernel
theorem dX7_readMore_152 : decode cX7_readMore 152 = .ok (.aload_n 0, 1) := by decide +kernel
theorem dX7_readMore_153 : decode cX7_readMore 153 = .ok (.dup, 1) := by decide +kernel
theorem dX7_readMore_154 : decode cX7_readMore 154 = .ok (.getfield 122, 3) := by decide +kernel
theorem dX7_readMore_157 : decode cX7_readMore 157 = .ok (.iconst 1, 1) := by decide +kernel
theorem dX7_readMore_158 : decode cX7_readMore 158 = .ok (.iadd, 1) := by decide +kernel
theorem dX7_readMore_159 : decode cX7_readMore 159 = .ok (.putfield 122, 3) := by decide +kernel
theorem dX7_readMore_162 : decode cX7_readMore 162 = .ok (.return_, 1) := by decide +kernel
set_option maxRecDepth 20000 in
theorem ggX7_readLine_X7_nameHere : GoodIn wsX7_readLine wsX7_nameHere := goodIn_r _ [13, 8, 14, 15, 16, 17, 18, 19, 20, 12, 21, 22, 23, 60, 61, 62, 63, 64, 65, 66, 67, 68, 69, 70, 71, 72, 73, 74, 75, 76, 77, 78, 79, 80, 81, 82, 83, 84, 85, 86, 87, 88, 89, 90, 91, 92, 93, 94, 95] (by decide +kernel) (by decide +kernel)
set_option maxRecDepth 20000 in
theorem gX7_readLine_X7_nameHere : GoodIn wsX7_readLine (wsV RX7 97 RX7 yX7_nameHere wsX7_nameHere) := goodIn_app (goodIn_of _ (by decide +kernel)) ggX7_readLine_X7_nameHere
set_option maxRecDepth 20000 in
theorem ggX7_readLine_X7_in : GoodIn wsX7_readLine wsX7_in := goodIn_r _ [26] (by decide +kernel) (by decide +kernel)
set_option maxRecDepth 20000 in
theorem gX7_readLine_X7_in : GoodIn wsX7_readLine (va_wsS RX7 52 yX7_in wsX7_in) := goodIn_app (goodIn_of _ (by decide +kernel)) ggX7_readLine_X7_in
set_option maxRecDepth 20000 in
theorem ggX7_readLine_X7_fails : GoodIn wsX7_readLine wsX7_fails := goodIn_r _ [30, 7, 15, 31, 60, 61, 62, 63, 64, 65, 66, 67, 68, 69, 70, 71, 72, 73, 74, 75, 76, 77, 78, 79, 80, 81, 82, 83, 84, 85, 86, 87, 88, 89, 90, 91, 92, 93, 94, 95] (by decide +kernel) (by decide +kernel)
set_option maxRecDepth 20000 in
theorem gX7_readLine_X7_fails : GoodIn wsX7_readLine (wsV RX7 90 RX7 yX7_fails wsX7_fails) := goodIn_app (goodIn_of _ (by decide +kernel)) ggX7_readLine_X7_fails
set_option maxRecDepth 20000 in
theorem ggX7_readLine_X7_step : GoodIn wsX7_readLine wsX7_step := goodIn_r _ [35, 7, 14, 15, 36, 8, 37, 38, 39, 40, 18, 19, 20, 12, 21, 22, 23, 24, 25, 26, 27, 28, 29, 30, 31, 60, 61, 62, 63, 64, 65, 66, 67, 68, 69, 70, 71, 72, 73, 74, 75, 76, 77, 78, 79, 80, 81, 82, 83, 84, 85, 86, 87, 88, 89, 90, 91, 92, 93, 94, 95] (by decide +kernel) (by decide +kernel)
set_option maxRecDepth 20000 in
theorem gX7_readLine_X7_step : GoodIn wsX7_readLine (wsV RX7 94 RX7 yX7_step wsX7_step) := goodIn_app (goodIn_of _ (by decide +kernel)) ggX7_readLine_X7_step
set_option maxRecDepth 20000 in
theorem ggX7_readLine_X7_readMore : GoodIn wsX7_readLine wsX7_readMore := goodIn_r _ [44, 3, 5, 4, 45, 46, 47, 12, 48, 7, 49, 8, 9, 10, 11, 13, 14, 15, 16, 17, 18, 19, 20, 21, 22, 23, 24, 25, 26, 27, 28, 29, 30, 31, 32, 33, 34, 35, 36, 37, 38, 39, 40, 50, 51, 52, 53, 54, 55, 56, 57, 58, 59, 60, 61, 62, 63, 64, 65, 66, 67, 68, 69, 70, 71, 72, 73, 74, 75, 76, 77, 78, 79, 80, 81, 82, 83, 84, 85, 86, 87, 88, 89, 90, 91, 92, 93, 94, 95] (by decide +kernel) (by decide +kernel)
set_option maxRecDepth 20000 in
theorem gX7_readLine_X7_readMore : GoodIn wsX7_readLine (wsV RX7 133 RX7 yX7_readMore wsX7_readMore) := goodIn_app (goodIn_of _ (by decide +kernel)) ggX7_readLine_X7_readMore
theorem dX7_readLine_0 : decode cX7_readLine 0 = .ok (.aload_n 0, 1) := by decide +kernel
theorem dX7_readLine_1 : decode cX7_readLine 1 = .ok (.invokevirtual 97, 3) := by decide +kernel
theorem dX7_readLine_4 : decode cX7_readLine 4 = .ok (.istore_n 1, 1) := by decide +kernel
theorem dX7_readLine_5 : decode cX7_readLine 5 = .ok (.iload_n 1, 1) := by decide +kernel
theorem dX7_readLine_6 : decode cX7_readLine 6 = .ok (.i2l, 1) := by decide +kernel
theorem dX7_readLine_7 : decode cX7_readLine 7 = .ok (.ldc2_w 125, 3) := by decide +kernel
theorem dX7_readLine_10 : decode cX7_readLine 10 = .ok (.ldc2_w 127, 3) := by decide +kernel
theorem dX7_readLine_13 : decode cX7_readLine 13 = .ok (.invokestatic 52, 3) := by decide +kernel
theorem dX7_readLine_16 : decode cX7_readLine 16 = .ok (.ifCond .ne 9, 3) := by decide +kernel
theorem dX7_readLine_19 : decode cX7_readLine 19 = .ok (.aload_n 0, 1) := by decide +kernel
theorem dX7_readLine_20 : decode cX7_readLine 20 = .ok (.iconst 2, 1) := by decide +kernel
theorem dX7_readLine_21 : decode cX7_readLine 21 = .ok (.invokevirtual 90, 3) := by decide +kernel
theorem dX7_readLine_24 : decode cX7_readLine 24 = .ok (.return_, 1) := by decide +kernel
theorem dX7_readLine_25 : decode cX7_readLine 25 = .ok (.iload_n 1, 1) := by decide +kernel
theorem dX7_readLine_26 : decode cX7_readLine 26 = .ok (.bipush 8, 2) := by decide +kernel
theorem dX7_readLine_28 : decode cX7_readLine 28 = .ok (.if_icmp .ne 11, 3) := by decide +kernel
theorem dX7_readLine_31 : decode cX7_readLine 31 = .ok (.aload_n 0, 1) := by decide +kernel
theorem dX7_readLine_32 : decode cX7_readLine 32 = .ok (.getfield 113, 3) := by decide +kernel
theorem dX7_readLine_35 : decode cX7_readLine 35 = .ok (.iconst 4, 1) := by decide +kernel
theorem dX7_readLine_36 : decode cX7_readLine 36 = .ok (.if_icmp .eq 34, 3) := by decide +kernel
theorem dX7_readLine_39 : decode cX7_readLine 39 = .ok (.iload_n 1, 1) := by decide +kernel
theorem dX7_readLine_40 : decode cX7_readLine 40 = .ok (.bipush 7, 2) := by decide +kernel
theorem dX7_readLine_42 : decode cX7_readLine 42 = .ok (.if_icmp .gt 11, 3) := by decide +kernel
theorem dX7_readLine_45 : decode cX7_readLine 45 = .ok (.aload_n 0, 1) := by decide +kernel
theorem dX7_readLine_46 : decode cX7_readLine 46 = .ok (.getfield 122, 3) := by decide +kernel
theorem dX7_readLine_49 : decode cX7_readLine 49 = .ok (.iconst 3, 1) := by decide +kernel
theorem dX7_readLine_50 : decode cX7_readLine 50 = .ok (.if_icmp .eq 20, 3) := by decide +kernel
theorem dX7_readLine_53 : decode cX7_readLine 53 = .ok (.iload_n 1, 1) := by decide +kernel
theorem dX7_readLine_54 : decode cX7_readLine 54 = .ok (.bipush 9, 2) := by decide +kernel
theorem dX7_readLine_56 : decode cX7_readLine 56 = .ok (.if_icmp .ne 19, 3) := by decide +kernel
theorem dX7_readLine_59 : decode cX7_readLine 59 = .ok (.aload_n 0, 1) := by decide +kernel
theorem dX7_readLine_60 : decode cX7_readLine 60 = .ok (.getfield 16, 3) := by decide +kernel
theorem dX7_readLine_63 : decode cX7_readLine 63 = .ok (.bipush 46, 2) := by decide +kernel
theorem dX7_readLine_65 : decode cX7_readLine 65 = .ok (.iaload, 1) := by decide +kernel
theorem dX7_readLine_66 : decode cX7_readLine 66 = .ok (.iconst 4, 1) := by decide +kernel
theorem dX7_readLine_67 : decode cX7_readLine 67 = .ok (.if_icmp .ne 8, 3) := by decide +kernel
theorem dX7_readLine_70 : decode cX7_readLine 70 = .ok (.aload_n 0, 1) := by decide +kernel
theorem dX7_readLine_71 : decode cX7_readLine 71 = .ok (.iconst 5, 1) := by decide +kernel
theorem dX7_readLine_72 : decode cX7_readLine 72 = .ok (.invokevirtual 90, 3) := by decide +kernel
theorem dX7_readLine_75 : decode cX7_readLine 75 = .ok (.iload_n 1, 1) := by decide +kernel
theorem dX7_readLine_76 : decode cX7_readLine 76 = .ok (.bipush 10, 2) := by decide +kernel
theorem dX7_readLine_78 : decode cX7_readLine 78 = .ok (.if_icmp .ne 15, 3) := by decide +kernel
theorem dX7_readLine_81 : decode cX7_readLine 81 = .ok (.aload_n 0, 1) := by decide +kernel
theorem dX7_readLine_82 : decode cX7_readLine 82 = .ok (.getfield 129, 3) := by decide +kernel
theorem dX7_readLine_85 : decode cX7_readLine 85 = .ok (.ifCond .eq 8, 3) := by decide +kernel
theorem dX7_readLine_88 : decode cX7_readLine 88 = .ok (.aload_n 0, 1) := by decide +kernel
theorem dX7_readLine_89 : decode cX7_readLine 89 = .ok (.iconst 4, 1) := by decide +kernel
theorem dX7_readLine_90 : decode cX7_readLine 90 = .ok (.invokevirtual 90, 3) := by decide +kernel
theorem dX7_readLine_93 : decode cX7_readLine 93 = .ok (.aload_n 0, 1) := by decide +kernel
theorem dX7_readLine_94 : decode cX7_readLine 94 = .ok (.aload_n 0, 1) := by decide +kernel
theorem dX7_readLine_95 : decode cX7_readLine 95 = .ok (.getfield 129, 3) := by decide +kernel
theorem dX7_readLine_98 : decode cX7_readLine 98 = .ok (.ifCond .ne 9, 3) := by decide +kernel
theorem dX7_readLine_101 : decode cX7_readLine 101 = .ok (.iload_n 1, 1) := by decide +kernel
theorem dX7_readLine_102 : decode cX7_readLine 102 = .ok (.bipush 10, 2) := by decide +kernel
theorem dX7_readLine_104 : decode cX7_readLine 104 = .ok (.if_icmp .ne 7, 3) := by decide +kernel
theorem dX7_readLine_107 : decode cX7_readLine 107 = .ok (.iconst 1, 1) := by decide +kernel
theorem dX7_readLine_108 : decode cX7_readLine 108 = .ok (.goto 4, 3) := by decide +kernel
theorem dX7_readLine_111 : decode cX7_readLine 111 = .ok (.iconst 0, 1) := by decide +kernel
theorem dX7_readLine_112 : decode cX7_readLine 112 = .ok (.putfield 129, 3) := by decide +kernel
theorem dX7_readLine_115 : decode cX7_readLine 115 = .ok (.aload_n 0, 1) := by decide +kernel
theorem dX7_readLine_116 : decode cX7_readLine 116 = .ok (.invokevirtual 94, 3) := by decide +kernel
theorem dX7_readLine_119 : decode cX7_readLine 119 = .ok (.aload_n 0, 1) := by decide +kernel
theorem dX7_readLine_120 : decode cX7_readLine 120 = .ok (.getfield 60, 3) := by decide +kernel
theorem dX7_readLine_123 : decode cX7_readLine 123 = .ok (.ifCond .le 4, 3) := by decide +kernel
theorem dX7_readLine_126 : decode cX7_readLine 126 = .ok (.return_, 1) := by decide +kernel
theorem dX7_readLine_127 : decode cX7_readLine 127 = .ok (.aload_n 0, 1) := by decide +kernel
theorem dX7_readLine_128 : decode cX7_readLine 128 = .ok (.iload_n 1, 1) := by decide +kernel
theorem dX7_readLine_129 : decode cX7_readLine 129 = .ok (.invokevirtual 133, 3) := by decide +kernel
theorem dX7_readLine_132 : decode cX7_readLine 132 = .ok (.aload_n 0, 1) := by decide +kernel
theorem dX7_readLine_133 : decode cX7_readLine 133 = .ok (.getfield 60, 3) := by decide +kernel
theorem dX7_readLine_136 : decode cX7_readLine 136 = .ok (.ifCond .ne 16, 3) := by decide +kernel
theorem dX7_readLine_139 : decode cX7_readLine 139 = .ok (.aload_n 0, 1) := by decide +kernel
theorem dX7_readLine_140 : decode cX7_readLine 140 = .ok (.getfield 69, 3) := by decide +kernel
theorem dX7_readLine_143 : decode cX7_readLine 143 = .ok (.iconst 3, 1) := by decide +kernel
theorem dX7_readLine_144 : decode cX7_readLine 144 = .ok (.if_icmp .eq 8, 3) := by decide +kernel
theorem dX7_readLine_147 : decode cX7_readLine 147 = .ok (.aload_n 0, 1) := by decide +kernel
theorem dX7_readLine_148 : decode cX7_readLine 148 = .ok (.iconst 2, 1) := by decide +kernel
theorem dX7_readLine_149 : decode cX7_readLine 149 = .ok (.invokevirtual 90, 3) := by decide +kernel
theorem dX7_readLine_152 : decode cX7_readLine 152 = .ok (.aload_n 0, 1) := by decide +kernel
theorem dX7_readLine_153 : decode cX7_readLine 153 = .ok (.invokevirtual 94, 3) := by decide +kernel
theorem dX7_readLine_156 : decode cX7_readLine 156 = .ok (.return_, 1) := by decide +kernel
set_option maxRecDepth 20000 in
theorem ggX7_text_X7_step : GoodIn wsX7_text wsX7_step := goodIn_r _ [22, 1, 2, 23, 24, 9, 25, 26, 27, 28, 29, 30, 31, 21, 32, 10, 33, 34, 35, 36, 37, 38, 39, 40, 12, 70, 71, 72, 73, 74, 75, 76, 77, 78, 79, 80, 81, 82, 83, 84, 85, 86, 87, 88, 89, 90, 91, 92, 93, 94, 95, 96, 97, 98, 99, 100, 101, 102, 103, 104, 105] (by decide +kernel) (by decide +kernel)
set_option maxRecDepth 20000 in
theorem gX7_text_X7_step : GoodIn wsX7_text (wsV RX7 94 RX7 yX7_step wsX7_step) := goodIn_app (goodIn_of _ (by decide +kernel)) ggX7_text_X7_step
set_option maxRecDepth 20000 in
theorem ggX7_text_X7_readLine : GoodIn wsX7_text wsX7_readLine := goodIn_r _ [44, 45, 46, 3, 4, 8, 5, 1, 9, 47, 48, 49, 21, 50, 2, 23, 51, 52, 29, 30, 31, 32, 10, 33, 34, 35, 36, 37, 38, 39, 40, 12, 18, 19, 20, 22, 24, 25, 26, 27, 28, 53, 54, 55, 56, 57, 58, 59, 60, 61, 62, 63, 64, 65, 66, 67, 68, 69, 6, 7, 70, 71, 72, 73, 74, 75, 76, 77, 78, 79, 80, 81, 82, 83, 84, 85, 86, 87, 88, 89, 90, 91, 92, 93, 94, 95, 96, 97, 98, 99, 100, 101, 102, 103, 104, 105] (by decide +kernel) (by decide +kernel)
set_option maxRecDepth 20000 in
theorem gX7_text_X7_readLine : GoodIn wsX7_text (wsV RX7 136 RX7 yX7_readLine wsX7_readLine) := goodIn_app (goodIn_of _ (by decide +kernel)) ggX7_text_X7_readLine
set_option maxRecDepth 20000 in
theorem ggX7_text_X7_fails : GoodIn wsX7_text wsX7_fails := goodIn_r _ [40, 1, 23, 12, 70, 71, 72, 73, 74, 75, 76, 77, 78, 79, 80, 81, 82, 83, 84, 85, 86, 87, 88, 89, 90, 91, 92, 93, 94, 95, 96, 97, 98, 99, 100, 101, 102, 103, 104, 105] (by decide +kernel) (by decide +kernel)
set_option maxRecDepth 20000 in
theorem gX7_text_X7_fails : GoodIn wsX7_text (wsV RX7 90 RX7 yX7_fails wsX7_fails) := goodIn_app (goodIn_of _ (by decide +kernel)) ggX7_text_X7_fails
theorem dX7_text_0 : decode cX7_text 0 = .ok (.aload_n 0, 1) := by decide +kernel
theorem dX7_text_1 : decode cX7_text 1 = .ok (.iconst 0, 1) := by decide +kernel
theorem dX7_text_2 : decode cX7_text 2 = .ok (.putfield 60, 3) := by decide +kernel
theorem dX7_text_5 : decode cX7_text 5 = .ok (.aload_n 0, 1) := by decide +kernel
theorem dX7_text_6 : decode cX7_text 6 = .ok (.iconst 0, 1) := by decide +kernel
theorem dX7_text_7 : decode cX7_text 7 = .ok (.putfield 72, 3) := by decide +kernel
theorem dX7_text_10 : decode cX7_text 10 = .ok (.aload_n 0, 1) := by decide +kernel
theorem dX7_text_11 : decode cX7_text 11 = .ok (.iconst 0, 1) := by decide +kernel
theorem dX7_text_12 : decode cX7_text 12 = .ok (.putfield 113, 3) := by decide +kernel
theorem dX7_text_15 : decode cX7_text 15 = .ok (.aload_n 0, 1) := by decide +kernel
theorem dX7_text_16 : decode cX7_text 16 = .ok (.iconst 0, 1) := by decide +kernel
theorem dX7_text_17 : decode cX7_text 17 = .ok (.putfield 122, 3) := by decide +kernel
theorem dX7_text_20 : decode cX7_text 20 = .ok (.aload_n 0, 1) := by decide +kernel
theorem dX7_text_21 : decode cX7_text 21 = .ok (.iconst 0, 1) := by decide +kernel
theorem dX7_text_22 : decode cX7_text 22 = .ok (.putfield 129, 3) := by decide +kernel
theorem dX7_text_25 : decode cX7_text 25 = .ok (.aload_n 0, 1) := by decide +kernel
theorem dX7_text_26 : decode cX7_text 26 = .ok (.iconst (-1), 1) := by decide +kernel
theorem dX7_text_27 : decode cX7_text 27 = .ok (.putfield 107, 3) := by decide +kernel
theorem dX7_text_30 : decode cX7_text 30 = .ok (.aload_n 0, 1) := by decide +kernel
theorem dX7_text_31 : decode cX7_text 31 = .ok (.iconst (-1), 1) := by decide +kernel
theorem dX7_text_32 : decode cX7_text 32 = .ok (.putfield 110, 3) := by decide +kernel
theorem dX7_text_35 : decode cX7_text 35 = .ok (.iconst 0, 1) := by decide +kernel
theorem dX7_text_36 : decode cX7_text 36 = .ok (.istore_n 1, 1) := by decide +kernel
theorem dX7_text_37 : decode cX7_text 37 = .ok (.iconst 0, 1) := by decide +kernel
theorem dX7_text_38 : decode cX7_text 38 = .ok (.istore_n 2, 1) := by decide +kernel
theorem dX7_text_39 : decode cX7_text 39 = .ok (.iload_n 2, 1) := by decide +kernel
theorem dX7_text_40 : decode cX7_text 40 = .ok (.bipush 68, 2) := by decide +kernel
theorem dX7_text_42 : decode cX7_text 42 = .ok (.if_icmp .ge 16, 3) := by decide +kernel
theorem dX7_text_45 : decode cX7_text 45 = .ok (.aload_n 0, 1) := by decide +kernel
theorem dX7_text_46 : decode cX7_text 46 = .ok (.getfield 16, 3) := by decide +kernel
theorem dX7_text_49 : decode cX7_text 49 = .ok (.iload_n 2, 1) := by decide +kernel
theorem dX7_text_50 : decode cX7_text 50 = .ok (.iconst 0, 1) := by decide +kernel
theorem dX7_text_51 : decode cX7_text 51 = .ok (.iastore, 1) := by decide +kernel
theorem dX7_text_52 : decode cX7_text 52 = .ok (.iinc 2 1, 3) := by decide +kernel
theorem dX7_text_55 : decode cX7_text 55 = .ok (.goto (-16), 3) := by decide +kernel
theorem dX7_text_58 : decode cX7_text 58 = .ok (.aload_n 0, 1) := by decide +kernel
theorem dX7_text_59 : decode cX7_text 59 = .ok (.invokevirtual 94, 3) := by decide +kernel
theorem dX7_text_62 : decode cX7_text 62 = .ok (.aload_n 0, 1) := by decide +kernel
theorem dX7_text_63 : decode cX7_text 63 = .ok (.getfield 60, 3) := by decide +kernel
theorem dX7_text_66 : decode cX7_text 66 = .ok (.ifCond .ne 20, 3) := by decide +kernel
theorem dX7_text_69 : decode cX7_text 69 = .ok (.aload_n 0, 1) := by decide +kernel
theorem dX7_text_70 : decode cX7_text 70 = .ok (.getfield 69, 3) := by decide +kernel
theorem dX7_text_73 : decode cX7_text 73 = .ok (.ifCond .eq 13, 3) := by decide +kernel
theorem dX7_text_76 : decode cX7_text 76 = .ok (.aload_n 0, 1) := by decide +kernel
theorem dX7_text_77 : decode cX7_text 77 = .ok (.invokevirtual 136, 3) := by decide +kernel
theorem dX7_text_80 : decode cX7_text 80 = .ok (.iinc 1 1, 3) := by decide +kernel
theorem dX7_text_83 : decode cX7_text 83 = .ok (.goto (-21), 3) := by decide +kernel
theorem dX7_text_86 : decode cX7_text 86 = .ok (.aload_n 0, 1) := by decide +kernel
theorem dX7_text_87 : decode cX7_text 87 = .ok (.getfield 60, 3) := by decide +kernel
theorem dX7_text_90 : decode cX7_text 90 = .ok (.ifCond .ne 31, 3) := by decide +kernel
theorem dX7_text_93 : decode cX7_text 93 = .ok (.aload_n 0, 1) := by decide +kernel
theorem dX7_text_94 : decode cX7_text 94 = .ok (.getfield 107, 3) := by decide +kernel
theorem dX7_text_97 : decode cX7_text 97 = .ok (.aload_n 0, 1) := by decide +kernel
theorem dX7_text_98 : decode cX7_text 98 = .ok (.getfield 113, 3) := by decide +kernel
theorem dX7_text_101 : decode cX7_text 101 = .ok (.if_icmp .ge 14, 3) := by decide +kernel
theorem dX7_text_104 : decode cX7_text 104 = .ok (.aload_n 0, 1) := by decide +kernel
theorem dX7_text_105 : decode cX7_text 105 = .ok (.getfield 110, 3) := by decide +kernel
theorem dX7_text_108 : decode cX7_text 108 = .ok (.aload_n 0, 1) := by decide +kernel
theorem dX7_text_109 : decode cX7_text 109 = .ok (.getfield 122, 3) := by decide +kernel
theorem dX7_text_112 : decode cX7_text 112 = .ok (.if_icmp .lt 9, 3) := by decide +kernel
theorem dX7_text_115 : decode cX7_text 115 = .ok (.aload_n 0, 1) := by decide +kernel
theorem dX7_text_116 : decode cX7_text 116 = .ok (.bipush 6, 2) := by decide +kernel
theorem dX7_text_118 : decode cX7_text 118 = .ok (.invokevirtual 90, 3) := by decide +kernel
theorem dX7_text_121 : decode cX7_text 121 = .ok (.aload_n 0, 1) := by decide +kernel
theorem dX7_text_122 : decode cX7_text 122 = .ok (.iconst 0, 1) := by decide +kernel
theorem dX7_text_123 : decode cX7_text 123 = .ok (.putfield 56, 3) := by decide +kernel
theorem dX7_text_126 : decode cX7_text 126 = .ok (.aload_n 0, 1) := by decide +kernel
theorem dX7_text_127 : decode cX7_text 127 = .ok (.aload_n 0, 1) := by decide +kernel
theorem dX7_text_128 : decode cX7_text 128 = .ok (.getfield 60, 3) := by decide +kernel
theorem dX7_text_131 : decode cX7_text 131 = .ok (.putfield 139, 3) := by decide +kernel
theorem dX7_text_134 : decode cX7_text 134 = .ok (.aload_n 0, 1) := by decide +kernel
theorem dX7_text_135 : decode cX7_text 135 = .ok (.getfield 60, 3) := by decide +kernel
theorem dX7_text_138 : decode cX7_text 138 = .ok (.ifCond .le 11, 3) := by decide +kernel
theorem dX7_text_141 : decode cX7_text 141 = .ok (.bipush (-10), 2) := by decide +kernel
theorem dX7_text_143 : decode cX7_text 143 = .ok (.aload_n 0, 1) := by decide +kernel
theorem dX7_text_144 : decode cX7_text 144 = .ok (.getfield 66, 3) := by decide +kernel
theorem dX7_text_147 : decode cX7_text 147 = .ok (.isub, 1) := by decide +kernel
theorem dX7_text_148 : decode cX7_text 148 = .ok (.ireturn, 1) := by decide +kernel
theorem dX7_text_149 : decode cX7_text 149 = .ok (.iconst 0, 1) := by decide +kernel
theorem dX7_text_150 : decode cX7_text 150 = .ok (.istore_n 2, 1) := by decide +kernel
theorem dX7_text_151 : decode cX7_text 151 = .ok (.iload_n 2, 1) := by decide +kernel
theorem dX7_text_152 : decode cX7_text 152 = .ok (.bipush 68, 2) := by decide +kernel
theorem dX7_text_154 : decode cX7_text 154 = .ok (.if_icmp .ge 21, 3) := by decide +kernel
theorem dX7_text_157 : decode cX7_text 157 = .ok (.aload_n 0, 1) := by decide +kernel
theorem dX7_text_158 : decode cX7_text 158 = .ok (.getfield 7, 3) := by decide +kernel
theorem dX7_text_161 : decode cX7_text 161 = .ok (.iload_n 2, 1) := by decide +kernel
theorem dX7_text_162 : decode cX7_text 162 = .ok (.aload_n 0, 1) := by decide +kernel
theorem dX7_text_163 : decode cX7_text 163 = .ok (.getfield 16, 3) := by decide +kernel
theorem dX7_text_166 : decode cX7_text 166 = .ok (.iload_n 2, 1) := by decide +kernel
theorem dX7_text_167 : decode cX7_text 167 = .ok (.iaload, 1) := by decide +kernel
theorem dX7_text_168 : decode cX7_text 168 = .ok (.iastore, 1) := by decide +kernel
theorem dX7_text_169 : decode cX7_text 169 = .ok (.iinc 2 1, 3) := by decide +kernel
theorem dX7_text_172 : decode cX7_text 172 = .ok (.goto (-21), 3) := by decide +kernel
theorem dX7_text_175 : decode cX7_text 175 = .ok (.aload_n 0, 1) := by decide +kernel
theorem dX7_text_176 : decode cX7_text 176 = .ok (.aload_n 0, 1) := by decide +kernel
theorem dX7_text_177 : decode cX7_text 177 = .ok (.getfield 113, 3) := by decide +kernel
theorem dX7_text_180 : decode cX7_text 180 = .ok (.putfield 142, 3) := by decide +kernel
theorem dX7_text_183 : decode cX7_text 183 = .ok (.aload_n 0, 1) := by decide +kernel
theorem dX7_text_184 : decode cX7_text 184 = .ok (.aload_n 0, 1) := by decide +kernel
theorem dX7_text_185 : decode cX7_text 185 = .ok (.getfield 122, 3) := by decide +kernel
theorem dX7_text_188 : decode cX7_text 188 = .ok (.putfield 145, 3) := by decide +kernel
theorem dX7_text_191 : decode cX7_text 191 = .ok (.aload_n 0, 1) := by decide +kernel
theorem dX7_text_192 : decode cX7_text 192 = .ok (.iconst 0, 1) := by decide +kernel
theorem dX7_text_193 : decode cX7_text 193 = .ok (.putfield 148, 3) := by decide +kernel
theorem dX7_text_196 : decode cX7_text 196 = .ok (.aload_n 0, 1) := by decide +kernel
theorem dX7_text_197 : decode cX7_text 197 = .ok (.getfield 37, 3) := by decide +kernel
theorem dX7_text_200 : decode cX7_text 200 = .ok (.iconst 0, 1) := by decide +kernel
theorem dX7_text_201 : decode cX7_text 201 = .ok (.iconst 0, 1) := by decide +kernel
theorem dX7_text_202 : decode cX7_text 202 = .ok (.bastore, 1) := by decide +kernel
theorem dX7_text_203 : decode cX7_text 203 = .ok (.aload_n 0, 1) := by decide +kernel
theorem dX7_text_204 : decode cX7_text 204 = .ok (.getfield 37, 3) := by decide +kernel
theorem dX7_text_207 : decode cX7_text 207 = .ok (.iconst 1, 1) := by decide +kernel
theorem dX7_text_208 : decode cX7_text 208 = .ok (.iconst 0, 1) := by decide +kernel
theorem dX7_text_209 : decode cX7_text 209 = .ok (.bastore, 1) := by decide +kernel
theorem dX7_text_210 : decode cX7_text 210 = .ok (.iload_n 1, 1) := by decide +kernel
theorem dX7_text_211 : decode cX7_text 211 = .ok (.ireturn, 1) := by decide +kernel
theorem dX7_fault_0 : decode cX7_fault 0 = .ok (.aload_n 0, 1) := by decide +kernel
theorem dX7_fault_1 : decode cX7_fault 1 = .ok (.getfield 139, 3) := by decide +kernel
theorem dX7_fault_4 : decode cX7_fault 4 = .ok (.ireturn, 1) := by decide +kernel
set_option maxRecDepth 20000 in
theorem ggX7_isCase_X7_in : GoodIn wsX7_isCase wsX7_in := goodIn_r _ [5] (by decide +kernel) (by decide +kernel)
set_option maxRecDepth 20000 in
theorem gX7_isCase_X7_in : GoodIn wsX7_isCase (va_wsS RX7 52 yX7_in wsX7_in) := goodIn_app (goodIn_of _ (by decide +kernel)) ggX7_isCase_X7_in
theorem dX7_isCase_0 : decode cX7_isCase 0 = .ok (.iload_n 1, 1) := by decide +kernel
theorem dX7_isCase_1 : decode cX7_isCase 1 = .ok (.i2l, 1) := by decide +kernel
theorem dX7_isCase_2 : decode cX7_isCase 2 = .ok (.lconst 0, 1) := by decide +kernel
theorem dX7_isCase_3 : decode cX7_isCase 3 = .ok (.aload_n 0, 1) := by decide +kernel
theorem dX7_isCase_4 : decode cX7_isCase 4 = .ok (.getfield 142, 3) := by decide +kernel
theorem dX7_isCase_7 : decode cX7_isCase 7 = .ok (.iconst 1, 1) := by decide +kernel
theorem dX7_isCase_8 : decode cX7_isCase 8 = .ok (.isub, 1) := by decide +kernel
theorem dX7_isCase_9 : decode cX7_isCase 9 = .ok (.i2l, 1) := by decide +kernel
theorem dX7_isCase_10 : decode cX7_isCase 10 = .ok (.invokestatic 52, 3) := by decide +kernel
theorem dX7_isCase_13 : decode cX7_isCase 13 = .ok (.ireturn, 1) := by decide +kernel
set_option maxRecDepth 20000 in
theorem ggX7_isJudge_X7_in : GoodIn wsX7_isJudge wsX7_in := goodIn_r _ [5] (by decide +kernel) (by decide +kernel)
set_option maxRecDepth 20000 in
theorem gX7_isJudge_X7_in : GoodIn wsX7_isJudge (va_wsS RX7 52 yX7_in wsX7_in) := goodIn_app (goodIn_of _ (by decide +kernel)) ggX7_isJudge_X7_in
theorem dX7_isJudge_0 : decode cX7_isJudge 0 = .ok (.iload_n 1, 1) := by decide +kernel
theorem dX7_isJudge_1 : decode cX7_isJudge 1 = .ok (.i2l, 1) := by decide +kernel
theorem dX7_isJudge_2 : decode cX7_isJudge 2 = .ok (.lconst 0, 1) := by decide +kernel
theorem dX7_isJudge_3 : decode cX7_isJudge 3 = .ok (.aload_n 0, 1) := by decide +kernel
theorem dX7_isJudge_4 : decode cX7_isJudge 4 = .ok (.getfield 145, 3) := by decide +kernel
theorem dX7_isJudge_7 : decode cX7_isJudge 7 = .ok (.iconst 1, 1) := by decide +kernel
theorem dX7_isJudge_8 : decode cX7_isJudge 8 = .ok (.isub, 1) := by decide +kernel
theorem dX7_isJudge_9 : decode cX7_isJudge 9 = .ok (.i2l, 1) := by decide +kernel
theorem dX7_isJudge_10 : decode cX7_isJudge 10 = .ok (.invokestatic 52, 3) := by decide +kernel
theorem dX7_isJudge_13 : decode cX7_isJudge 13 = .ok (.ireturn, 1) := by decide +kernel
set_option maxRecDepth 20000 in
theorem ggX7_isSide_X7_in : GoodIn wsX7_isSide wsX7_in := goodIn_r _ [4] (by decide +kernel) (by decide +kernel)
set_option maxRecDepth 20000 in
theorem gX7_isSide_X7_in : GoodIn wsX7_isSide (va_wsS RX7 52 yX7_in wsX7_in) := goodIn_app (goodIn_of _ (by decide +kernel)) ggX7_isSide_X7_in
theorem dX7_isSide_0 : decode cX7_isSide 0 = .ok (.iload_n 0, 1) := by decide +kernel
theorem dX7_isSide_1 : decode cX7_isSide 1 = .ok (.i2l, 1) := by decide +kernel
theorem dX7_isSide_2 : decode cX7_isSide 2 = .ok (.lconst 0, 1) := by decide +kernel
theorem dX7_isSide_3 : decode cX7_isSide 3 = .ok (.lconst 1, 1) := by decide +kernel
theorem dX7_isSide_4 : decode cX7_isSide 4 = .ok (.invokestatic 52, 3) := by decide +kernel
theorem dX7_isSide_7 : decode cX7_isSide 7 = .ok (.ireturn, 1) := by decide +kernel
theorem dX7_isBlown_0 : decode cX7_isBlown 0 = .ok (.aload_n 0, 1) := by decide +kernel
theorem dX7_isBlown_1 : decode cX7_isBlown 1 = .ok (.getfield 151, 3) := by decide +kernel
theorem dX7_isBlown_4 : decode cX7_isBlown 4 = .ok (.iload_n 3, 1) := by decide +kernel
theorem dX7_isBlown_5 : decode cX7_isBlown 5 = .ok (.if_icmp .le 15, 3) := by decide +kernel
theorem dX7_isBlown_8 : decode cX7_isBlown 8 = .ok (.aload_n 0, 1) := by decide +kernel
theorem dX7_isBlown_9 : decode cX7_isBlown 9 = .ok (.getfield 154, 3) := by decide +kernel
theorem dX7_isBlown_12 : decode cX7_isBlown 12 = .ok (.iload_n 2, 1) := by decide +kernel
theorem dX7_isBlown_13 : decode cX7_isBlown 13 = .ok (.if_icmp .ne 7, 3) := by decide +kernel
theorem dX7_isBlown_16 : decode cX7_isBlown 16 = .ok (.iconst 1, 1) := by decide +kernel
theorem dX7_isBlown_17 : decode cX7_isBlown 17 = .ok (.goto 4, 3) := by decide +kernel
theorem dX7_isBlown_20 : decode cX7_isBlown 20 = .ok (.iconst 0, 1) := by decide +kernel
theorem dX7_isBlown_21 : decode cX7_isBlown 21 = .ok (.istore 4, 2) := by decide +kernel
theorem dX7_isBlown_23 : decode cX7_isBlown 23 = .ok (.iconst 0, 1) := by decide +kernel
theorem dX7_isBlown_24 : decode cX7_isBlown 24 = .ok (.istore 5, 2) := by decide +kernel
theorem dX7_isBlown_26 : decode cX7_isBlown 26 = .ok (.iload 5, 2) := by decide +kernel
theorem dX7_isBlown_28 : decode cX7_isBlown 28 = .ok (.aload_n 0, 1) := by decide +kernel
theorem dX7_isBlown_29 : decode cX7_isBlown 29 = .ok (.getfield 7, 3) := by decide +kernel
theorem dX7_isBlown_32 : decode cX7_isBlown 32 = .ok (.iload_n 1, 1) := by decide +kernel
theorem dX7_isBlown_33 : decode cX7_isBlown 33 = .ok (.bipush 46, 2) := by decide +kernel
theorem dX7_isBlown_35 : decode cX7_isBlown 35 = .ok (.iadd, 1) := by decide +kernel
theorem dX7_isBlown_36 : decode cX7_isBlown 36 = .ok (.iaload, 1) := by decide +kernel
theorem dX7_isBlown_37 : decode cX7_isBlown 37 = .ok (.if_icmp .ge 77, 3) := by decide +kernel
theorem dX7_isBlown_40 : decode cX7_isBlown 40 = .ok (.aload_n 0, 1) := by decide +kernel
theorem dX7_isBlown_41 : decode cX7_isBlown 41 = .ok (.getfield 157, 3) := by decide +kernel
theorem dX7_isBlown_44 : decode cX7_isBlown 44 = .ok (.iload 5, 2) := by decide +kernel
theorem dX7_isBlown_46 : decode cX7_isBlown 46 = .ok (.ishr, 1) := by decide +kernel
theorem dX7_isBlown_47 : decode cX7_isBlown 47 = .ok (.iconst 1, 1) := by decide +kernel
theorem dX7_isBlown_48 : decode cX7_isBlown 48 = .ok (.iand, 1) := by decide +kernel
theorem dX7_isBlown_49 : decode cX7_isBlown 49 = .ok (.ifCond .ne 23, 3) := by decide +kernel
theorem dX7_isBlown_52 : decode cX7_isBlown 52 = .ok (.aload_n 0, 1) := by decide +kernel
theorem dX7_isBlown_53 : decode cX7_isBlown 53 = .ok (.getfield 7, 3) := by decide +kernel
theorem dX7_isBlown_56 : decode cX7_isBlown 56 = .ok (.iload_n 1, 1) := by decide +kernel
theorem dX7_isBlown_57 : decode cX7_isBlown 57 = .ok (.bipush 47, 2) := by decide +kernel
theorem dX7_isBlown_59 : decode cX7_isBlown 59 = .ok (.iadd, 1) := by decide +kernel
theorem dX7_isBlown_60 : decode cX7_isBlown 60 = .ok (.iload 5, 2) := by decide +kernel
theorem dX7_isBlown_62 : decode cX7_isBlown 62 = .ok (.iadd, 1) := by decide +kernel
theorem dX7_isBlown_63 : decode cX7_isBlown 63 = .ok (.iaload, 1) := by decide +kernel
theorem dX7_isBlown_64 : decode cX7_isBlown 64 = .ok (.iload_n 2, 1) := by decide +kernel
theorem dX7_isBlown_65 : decode cX7_isBlown 65 = .ok (.if_icmp .ne 7, 3) := by decide +kernel
theorem dX7_isBlown_68 : decode cX7_isBlown 68 = .ok (.iconst 1, 1) := by decide +kernel
theorem dX7_isBlown_69 : decode cX7_isBlown 69 = .ok (.goto 4, 3) := by decide +kernel
theorem dX7_isBlown_72 : decode cX7_isBlown 72 = .ok (.iconst 0, 1) := by decide +kernel
theorem dX7_isBlown_73 : decode cX7_isBlown 73 = .ok (.istore 6, 2) := by decide +kernel
theorem dX7_isBlown_75 : decode cX7_isBlown 75 = .ok (.iload 4, 2) := by decide +kernel
theorem dX7_isBlown_77 : decode cX7_isBlown 77 = .ok (.ifCond .ne 24, 3) := by decide +kernel
theorem dX7_isBlown_80 : decode cX7_isBlown 80 = .ok (.iload 6, 2) := by decide +kernel
theorem dX7_isBlown_82 : decode cX7_isBlown 82 = .ok (.ifCond .eq 23, 3) := by decide +kernel
theorem dX7_isBlown_85 : decode cX7_isBlown 85 = .ok (.aload_n 0, 1) := by decide +kernel
theorem dX7_isBlown_86 : decode cX7_isBlown 86 = .ok (.getfield 7, 3) := by decide +kernel
theorem dX7_isBlown_89 : decode cX7_isBlown 89 = .ok (.iload_n 1, 1) := by decide +kernel
theorem dX7_isBlown_90 : decode cX7_isBlown 90 = .ok (.bipush 51, 2) := by decide +kernel
theorem dX7_isBlown_92 : decode cX7_isBlown 92 = .ok (.iadd, 1) := by decide +kernel
theorem dX7_isBlown_93 : decode cX7_isBlown 93 = .ok (.iload 5, 2) := by decide +kernel
theorem dX7_isBlown_95 : decode cX7_isBlown 95 = .ok (.iadd, 1) := by decide +kernel
theorem dX7_isBlown_96 : decode cX7_isBlown 96 = .ok (.iaload, 1) := by decide +kernel
theorem dX7_isBlown_97 : decode cX7_isBlown 97 = .ok (.iload_n 3, 1) := by decide +kernel
theorem dX7_isBlown_98 : decode cX7_isBlown 98 = .ok (.if_icmp .le 7, 3) := by decide +kernel
theorem dX7_isBlown_101 : decode cX7_isBlown 101 = .ok (.iconst 1, 1) := by decide +kernel
theorem dX7_isBlown_102 : decode cX7_isBlown 102 = .ok (.goto 4, 3) := by decide +kernel
theorem dX7_isBlown_105 : decode cX7_isBlown 105 = .ok (.iconst 0, 1) := by decide +kernel
theorem dX7_isBlown_106 : decode cX7_isBlown 106 = .ok (.istore 4, 2) := by decide +kernel
theorem dX7_isBlown_108 : decode cX7_isBlown 108 = .ok (.iinc 5 1, 3) := by decide +kernel
theorem dX7_isBlown_111 : decode cX7_isBlown 111 = .ok (.goto (-85), 3) := by decide +kernel
theorem dX7_isBlown_114 : decode cX7_isBlown 114 = .ok (.iload 4, 2) := by decide +kernel
theorem dX7_isBlown_116 : decode cX7_isBlown 116 = .ok (.ireturn, 1) := by decide +kernel
set_option maxRecDepth 20000 in
theorem ggX7_isOut_X7_isBlown : GoodIn wsX7_isOut wsX7_isBlown := goodIn_r _ [6, 7, 8, 1, 9, 10, 11, 12, 13, 14, 15, 16, 17, 18, 19, 20, 21, 22, 23, 24, 25, 26, 27, 28, 29, 30, 31, 32, 33, 34, 35, 36, 37, 38, 39, 40, 41, 42, 43, 44, 45] (by decide +kernel) (by decide +kernel)
set_option maxRecDepth 20000 in
theorem gX7_isOut_X7_isBlown : GoodIn wsX7_isOut (wsV RX7 160 RX7 yX7_isBlown wsX7_isBlown) := goodIn_app (goodIn_of _ (by decide +kernel)) ggX7_isOut_X7_isBlown
theorem dX7_isOut_0 : decode cX7_isOut 0 = .ok (.aload_n 0, 1) := by decide +kernel
theorem dX7_isOut_1 : decode cX7_isOut 1 = .ok (.getfield 7, 3) := by decide +kernel
theorem dX7_isOut_4 : decode cX7_isOut 4 = .ok (.iload_n 1, 1) := by decide +kernel
theorem dX7_isOut_5 : decode cX7_isOut 5 = .ok (.bipush 8, 2) := by decide +kernel
theorem dX7_isOut_7 : decode cX7_isOut 7 = .ok (.iadd, 1) := by decide +kernel
theorem dX7_isOut_8 : decode cX7_isOut 8 = .ok (.iload_n 2, 1) := by decide +kernel
theorem dX7_isOut_9 : decode cX7_isOut 9 = .ok (.iadd, 1) := by decide +kernel
theorem dX7_isOut_10 : decode cX7_isOut 10 = .ok (.iaload, 1) := by decide +kernel
theorem dX7_isOut_11 : decode cX7_isOut 11 = .ok (.ifCond .eq 23, 3) := by decide +kernel
theorem dX7_isOut_14 : decode cX7_isOut 14 = .ok (.aload_n 0, 1) := by decide +kernel
theorem dX7_isOut_15 : decode cX7_isOut 15 = .ok (.iload_n 1, 1) := by decide +kernel
theorem dX7_isOut_16 : decode cX7_isOut 16 = .ok (.iload_n 3, 1) := by decide +kernel
theorem dX7_isOut_17 : decode cX7_isOut 17 = .ok (.aload_n 0, 1) := by decide +kernel
theorem dX7_isOut_18 : decode cX7_isOut 18 = .ok (.getfield 7, 3) := by decide +kernel
theorem dX7_isOut_21 : decode cX7_isOut 21 = .ok (.iload_n 1, 1) := by decide +kernel
theorem dX7_isOut_22 : decode cX7_isOut 22 = .ok (.bipush 16, 2) := by decide +kernel
theorem dX7_isOut_24 : decode cX7_isOut 24 = .ok (.iadd, 1) := by decide +kernel
theorem dX7_isOut_25 : decode cX7_isOut 25 = .ok (.iload_n 2, 1) := by decide +kernel
theorem dX7_isOut_26 : decode cX7_isOut 26 = .ok (.iadd, 1) := by decide +kernel
theorem dX7_isOut_27 : decode cX7_isOut 27 = .ok (.iaload, 1) := by decide +kernel
theorem dX7_isOut_28 : decode cX7_isOut 28 = .ok (.invokevirtual 160, 3) := by decide +kernel
theorem dX7_isOut_31 : decode cX7_isOut 31 = .ok (.ifCond .eq 7, 3) := by decide +kernel
theorem dX7_isOut_34 : decode cX7_isOut 34 = .ok (.iconst 1, 1) := by decide +kernel
theorem dX7_isOut_35 : decode cX7_isOut 35 = .ok (.goto 4, 3) := by decide +kernel
theorem dX7_isOut_38 : decode cX7_isOut 38 = .ok (.iconst 0, 1) := by decide +kernel
theorem dX7_isOut_39 : decode cX7_isOut 39 = .ok (.ireturn, 1) := by decide +kernel
theorem dX7_goesTo_0 : decode cX7_goesTo 0 = .ok (.iconst 2, 1) := by decide +kernel
theorem dX7_goesTo_1 : decode cX7_goesTo 1 = .ok (.iload_n 2, 1) := by decide +kernel
theorem dX7_goesTo_2 : decode cX7_goesTo 2 = .ok (.imul, 1) := by decide +kernel
theorem dX7_goesTo_3 : decode cX7_goesTo 3 = .ok (.istore 4, 2) := by decide +kernel
theorem dX7_goesTo_5 : decode cX7_goesTo 5 = .ok (.aload_n 0, 1) := by decide +kernel
theorem dX7_goesTo_6 : decode cX7_goesTo 6 = .ok (.getfield 7, 3) := by decide +kernel
theorem dX7_goesTo_9 : decode cX7_goesTo 9 = .ok (.iload_n 1, 1) := by decide +kernel
theorem dX7_goesTo_10 : decode cX7_goesTo 10 = .ok (.bipush 8, 2) := by decide +kernel
theorem dX7_goesTo_12 : decode cX7_goesTo 12 = .ok (.iadd, 1) := by decide +kernel
theorem dX7_goesTo_13 : decode cX7_goesTo 13 = .ok (.iload 4, 2) := by decide +kernel
theorem dX7_goesTo_15 : decode cX7_goesTo 15 = .ok (.iadd, 1) := by decide +kernel
theorem dX7_goesTo_16 : decode cX7_goesTo 16 = .ok (.iconst 1, 1) := by decide +kernel
theorem dX7_goesTo_17 : decode cX7_goesTo 17 = .ok (.iadd, 1) := by decide +kernel
theorem dX7_goesTo_18 : decode cX7_goesTo 18 = .ok (.iaload, 1) := by decide +kernel
theorem dX7_goesTo_19 : decode cX7_goesTo 19 = .ok (.aload_n 0, 1) := by decide +kernel
theorem dX7_goesTo_20 : decode cX7_goesTo 20 = .ok (.getfield 7, 3) := by decide +kernel
theorem dX7_goesTo_23 : decode cX7_goesTo 23 = .ok (.iload_n 1, 1) := by decide +kernel
theorem dX7_goesTo_24 : decode cX7_goesTo 24 = .ok (.bipush 8, 2) := by decide +kernel
theorem dX7_goesTo_26 : decode cX7_goesTo 26 = .ok (.iadd, 1) := by decide +kernel
theorem dX7_goesTo_27 : decode cX7_goesTo 27 = .ok (.iload 4, 2) := by decide +kernel
theorem dX7_goesTo_29 : decode cX7_goesTo 29 = .ok (.iadd, 1) := by decide +kernel
theorem dX7_goesTo_30 : decode cX7_goesTo 30 = .ok (.iaload, 1) := by decide +kernel
theorem dX7_goesTo_31 : decode cX7_goesTo 31 = .ok (.if_icmp .le 7, 3) := by decide +kernel
theorem dX7_goesTo_34 : decode cX7_goesTo 34 = .ok (.iconst 1, 1) := by decide +kernel
theorem dX7_goesTo_35 : decode cX7_goesTo 35 = .ok (.goto 4, 3) := by decide +kernel
theorem dX7_goesTo_38 : decode cX7_goesTo 38 = .ok (.iconst 0, 1) := by decide +kernel
theorem dX7_goesTo_39 : decode cX7_goesTo 39 = .ok (.istore 5, 2) := by decide +kernel
theorem dX7_goesTo_41 : decode cX7_goesTo 41 = .ok (.aload_n 0, 1) := by decide +kernel
theorem dX7_goesTo_42 : decode cX7_goesTo 42 = .ok (.getfield 7, 3) := by decide +kernel
theorem dX7_goesTo_45 : decode cX7_goesTo 45 = .ok (.iload_n 1, 1) := by decide +kernel
theorem dX7_goesTo_46 : decode cX7_goesTo 46 = .ok (.bipush 40, 2) := by decide +kernel
theorem dX7_goesTo_48 : decode cX7_goesTo 48 = .ok (.iadd, 1) := by decide +kernel
theorem dX7_goesTo_49 : decode cX7_goesTo 49 = .ok (.iload_n 3, 1) := by decide +kernel
theorem dX7_goesTo_50 : decode cX7_goesTo 50 = .ok (.iadd, 1) := by decide +kernel
theorem dX7_goesTo_51 : decode cX7_goesTo 51 = .ok (.iaload, 1) := by decide +kernel
theorem dX7_goesTo_52 : decode cX7_goesTo 52 = .ok (.tableswitch 38 0 2 #[28, 30, 33], 28) := by decide +kernel
theorem dX7_goesTo_80 : decode cX7_goesTo 80 = .ok (.iconst 0, 1) := by decide +kernel
theorem dX7_goesTo_81 : decode cX7_goesTo 81 = .ok (.ireturn, 1) := by decide +kernel
theorem dX7_goesTo_82 : decode cX7_goesTo 82 = .ok (.iload 5, 2) := by decide +kernel
theorem dX7_goesTo_84 : decode cX7_goesTo 84 = .ok (.ireturn, 1) := by decide +kernel
theorem dX7_goesTo_85 : decode cX7_goesTo 85 = .ok (.iconst 1, 1) := by decide +kernel
theorem dX7_goesTo_86 : decode cX7_goesTo 86 = .ok (.iload 5, 2) := by decide +kernel
theorem dX7_goesTo_88 : decode cX7_goesTo 88 = .ok (.isub, 1) := by decide +kernel
theorem dX7_goesTo_89 : decode cX7_goesTo 89 = .ok (.ireturn, 1) := by decide +kernel
theorem dX7_goesTo_90 : decode cX7_goesTo 90 = .ok (.aload_n 0, 1) := by decide +kernel
theorem dX7_goesTo_91 : decode cX7_goesTo 91 = .ok (.getfield 7, 3) := by decide +kernel
theorem dX7_goesTo_94 : decode cX7_goesTo 94 = .ok (.iload_n 1, 1) := by decide +kernel
theorem dX7_goesTo_95 : decode cX7_goesTo 95 = .ok (.bipush 16, 2) := by decide +kernel
theorem dX7_goesTo_97 : decode cX7_goesTo 97 = .ok (.iadd, 1) := by decide +kernel
theorem dX7_goesTo_98 : decode cX7_goesTo 98 = .ok (.iload 4, 2) := by decide +kernel
theorem dX7_goesTo_100 : decode cX7_goesTo 100 = .ok (.iadd, 1) := by decide +kernel
theorem dX7_goesTo_101 : decode cX7_goesTo 101 = .ok (.iconst 1, 1) := by decide +kernel
theorem dX7_goesTo_102 : decode cX7_goesTo 102 = .ok (.iadd, 1) := by decide +kernel
theorem dX7_goesTo_103 : decode cX7_goesTo 103 = .ok (.iaload, 1) := by decide +kernel
theorem dX7_goesTo_104 : decode cX7_goesTo 104 = .ok (.aload_n 0, 1) := by decide +kernel
theorem dX7_goesTo_105 : decode cX7_goesTo 105 = .ok (.getfield 7, 3) := by decide +kernel
theorem dX7_goesTo_108 : decode cX7_goesTo 108 = .ok (.iload_n 1, 1) := by decide +kernel
theorem dX7_goesTo_109 : decode cX7_goesTo 109 = .ok (.bipush 16, 2) := by decide +kernel
theorem dX7_goesTo_111 : decode cX7_goesTo 111 = .ok (.iadd, 1) := by decide +kernel
theorem dX7_goesTo_112 : decode cX7_goesTo 112 = .ok (.iload 4, 2) := by decide +kernel
theorem dX7_goesTo_114 : decode cX7_goesTo 114 = .ok (.iadd, 1) := by decide +kernel
theorem dX7_goesTo_115 : decode cX7_goesTo 115 = .ok (.iaload, 1) := by decide +kernel
theorem dX7_goesTo_116 : decode cX7_goesTo 116 = .ok (.if_icmp .ge 7, 3) := by decide +kernel
theorem dX7_goesTo_119 : decode cX7_goesTo 119 = .ok (.iconst 1, 1) := by decide +kernel
theorem dX7_goesTo_120 : decode cX7_goesTo 120 = .ok (.goto 4, 3) := by decide +kernel
theorem dX7_goesTo_123 : decode cX7_goesTo 123 = .ok (.iconst 0, 1) := by decide +kernel
theorem dX7_goesTo_124 : decode cX7_goesTo 124 = .ok (.ireturn, 1) := by decide +kernel
theorem dX7_burnsOn_0 : decode cX7_burnsOn 0 = .ok (.aload_n 0, 1) := by decide +kernel
theorem dX7_burnsOn_1 : decode cX7_burnsOn 1 = .ok (.getfield 7, 3) := by decide +kernel
theorem dX7_burnsOn_4 : decode cX7_burnsOn 4 = .ok (.iload_n 1, 1) := by decide +kernel
theorem dX7_burnsOn_5 : decode cX7_burnsOn 5 = .ok (.bipush 8, 2) := by decide +kernel
theorem dX7_burnsOn_7 : decode cX7_burnsOn 7 = .ok (.iadd, 1) := by decide +kernel
theorem dX7_burnsOn_8 : decode cX7_burnsOn 8 = .ok (.iload_n 2, 1) := by decide +kernel
theorem dX7_burnsOn_9 : decode cX7_burnsOn 9 = .ok (.iadd, 1) := by decide +kernel
theorem dX7_burnsOn_10 : decode cX7_burnsOn 10 = .ok (.iaload, 1) := by decide +kernel
theorem dX7_burnsOn_11 : decode cX7_burnsOn 11 = .ok (.aload_n 0, 1) := by decide +kernel
theorem dX7_burnsOn_12 : decode cX7_burnsOn 12 = .ok (.getfield 13, 3) := by decide +kernel
theorem dX7_burnsOn_15 : decode cX7_burnsOn 15 = .ok (.aload_n 0, 1) := by decide +kernel
theorem dX7_burnsOn_16 : decode cX7_burnsOn 16 = .ok (.getfield 7, 3) := by decide +kernel
theorem dX7_burnsOn_19 : decode cX7_burnsOn 19 = .ok (.iload_n 1, 1) := by decide +kernel
theorem dX7_burnsOn_20 : decode cX7_burnsOn 20 = .ok (.iload_n 2, 1) := by decide +kernel
theorem dX7_burnsOn_21 : decode cX7_burnsOn 21 = .ok (.iadd, 1) := by decide +kernel
theorem dX7_burnsOn_22 : decode cX7_burnsOn 22 = .ok (.iaload, 1) := by decide +kernel
theorem dX7_burnsOn_23 : decode cX7_burnsOn 23 = .ok (.iaload, 1) := by decide +kernel
theorem dX7_burnsOn_24 : decode cX7_burnsOn 24 = .ok (.isub, 1) := by decide +kernel
theorem dX7_burnsOn_25 : decode cX7_burnsOn 25 = .ok (.istore_n 3, 1) := by decide +kernel
theorem dX7_burnsOn_26 : decode cX7_burnsOn 26 = .ok (.aload_n 0, 1) := by decide +kernel
theorem dX7_burnsOn_27 : decode cX7_burnsOn 27 = .ok (.getfield 7, 3) := by decide +kernel
theorem dX7_burnsOn_30 : decode cX7_burnsOn 30 = .ok (.iload_n 1, 1) := by decide +kernel
theorem dX7_burnsOn_31 : decode cX7_burnsOn 31 = .ok (.bipush 8, 2) := by decide +kernel
theorem dX7_burnsOn_33 : decode cX7_burnsOn 33 = .ok (.iadd, 1) := by decide +kernel
theorem dX7_burnsOn_34 : decode cX7_burnsOn 34 = .ok (.iload_n 2, 1) := by decide +kernel
theorem dX7_burnsOn_35 : decode cX7_burnsOn 35 = .ok (.iadd, 1) := by decide +kernel
theorem dX7_burnsOn_36 : decode cX7_burnsOn 36 = .ok (.iload_n 3, 1) := by decide +kernel
theorem dX7_burnsOn_37 : decode cX7_burnsOn 37 = .ok (.ifCond .ge 7, 3) := by decide +kernel
theorem dX7_burnsOn_40 : decode cX7_burnsOn 40 = .ok (.iconst 0, 1) := by decide +kernel
theorem dX7_burnsOn_41 : decode cX7_burnsOn 41 = .ok (.goto 4, 3) := by decide +kernel
theorem dX7_burnsOn_44 : decode cX7_burnsOn 44 = .ok (.iload_n 3, 1) := by decide +kernel
theorem dX7_burnsOn_45 : decode cX7_burnsOn 45 = .ok (.iastore, 1) := by decide +kernel
theorem dX7_burnsOn_46 : decode cX7_burnsOn 46 = .ok (.return_, 1) := by decide +kernel
set_option maxRecDepth 20000 in
theorem ggX7_hearsOn_X7_isOut : GoodIn wsX7_hearsOn wsX7_isOut := goodIn_r _ [7, 1, 8, 9, 10, 6, 11, 12, 13, 14, 24, 25, 26, 27, 28, 29, 30, 31, 32, 33, 34, 35, 36, 37, 38, 39, 40, 41, 42, 43, 44, 45, 46, 47, 48, 49, 50, 51, 52, 53, 54, 55, 56, 57, 58, 59] (by decide +kernel) (by decide +kernel)
set_option maxRecDepth 20000 in
theorem gX7_hearsOn_X7_isOut : GoodIn wsX7_hearsOn (wsV RX7 164 RX7 yX7_isOut wsX7_isOut) := goodIn_app (goodIn_of _ (by decide +kernel)) ggX7_hearsOn_X7_isOut
set_option maxRecDepth 20000 in
theorem ggX7_hearsOn_X7_goesTo : GoodIn wsX7_hearsOn wsX7_goesTo := goodIn_r _ [18, 1, 24, 25, 26, 27, 28, 29, 30, 31, 32, 33, 34, 35, 36, 37, 38, 39, 40, 41, 42, 43, 44, 45, 46, 47, 48, 49, 50, 51, 52, 53, 54, 55, 56, 57, 58, 59] (by decide +kernel) (by decide +kernel)
set_option maxRecDepth 20000 in
theorem gX7_hearsOn_X7_goesTo : GoodIn wsX7_hearsOn (wsV RX7 167 RX7 yX7_goesTo wsX7_goesTo) := goodIn_app (goodIn_of _ (by decide +kernel)) ggX7_hearsOn_X7_goesTo
set_option maxRecDepth 20000 in
theorem ggX7_hearsOn_X7_burnsOn : GoodIn wsX7_hearsOn wsX7_burnsOn := goodIn_r _ [22, 1, 23, 24, 25, 26, 27, 28, 29, 30, 31, 32, 33, 34, 35, 36, 37, 38, 39, 40, 41, 42, 43, 44, 45, 46, 47, 48, 49, 50, 51, 52, 53, 54, 55, 56, 57, 58, 59] (by decide +kernel) (by decide +kernel)
set_option maxRecDepth 20000 in
theorem gX7_hearsOn_X7_burnsOn : GoodIn wsX7_hearsOn (wsV RX7 174 RX7 yX7_burnsOn wsX7_burnsOn) := goodIn_app (goodIn_of _ (by decide +kernel)) ggX7_hearsOn_X7_burnsOn
theorem dX7_hearsOn_0 : decode cX7_hearsOn 0 = .ok (.iconst 0, 1) := by decide +kernel
theorem dX7_hearsOn_1 : decode cX7_hearsOn 1 = .ok (.istore 4, 2) := by decide +kernel
theorem dX7_hearsOn_3 : decode cX7_hearsOn 3 = .ok (.iload 4, 2) := by decide +kernel
theorem dX7_hearsOn_5 : decode cX7_hearsOn 5 = .ok (.bipush 9, 2) := by decide +kernel
theorem dX7_hearsOn_7 : decode cX7_hearsOn 7 = .ok (.if_icmp .gt 149, 3) := by decide +kernel
theorem dX7_hearsOn_10 : decode cX7_hearsOn 10 = .ok (.aload_n 0, 1) := by decide +kernel
theorem dX7_hearsOn_11 : decode cX7_hearsOn 11 = .ok (.iload_n 1, 1) := by decide +kernel
theorem dX7_hearsOn_12 : decode cX7_hearsOn 12 = .ok (.iconst 2, 1) := by decide +kernel
theorem dX7_hearsOn_13 : decode cX7_hearsOn 13 = .ok (.iload_n 2, 1) := by decide +kernel
theorem dX7_hearsOn_14 : decode cX7_hearsOn 14 = .ok (.imul, 1) := by decide +kernel
theorem dX7_hearsOn_15 : decode cX7_hearsOn 15 = .ok (.iload 4, 2) := by decide +kernel
theorem dX7_hearsOn_17 : decode cX7_hearsOn 17 = .ok (.invokevirtual 164, 3) := by decide +kernel
theorem dX7_hearsOn_20 : decode cX7_hearsOn 20 = .ok (.istore 5, 2) := by decide +kernel
theorem dX7_hearsOn_22 : decode cX7_hearsOn 22 = .ok (.aload_n 0, 1) := by decide +kernel
theorem dX7_hearsOn_23 : decode cX7_hearsOn 23 = .ok (.iload_n 1, 1) := by decide +kernel
theorem dX7_hearsOn_24 : decode cX7_hearsOn 24 = .ok (.iconst 2, 1) := by decide +kernel
theorem dX7_hearsOn_25 : decode cX7_hearsOn 25 = .ok (.iload_n 2, 1) := by decide +kernel
theorem dX7_hearsOn_26 : decode cX7_hearsOn 26 = .ok (.imul, 1) := by decide +kernel
theorem dX7_hearsOn_27 : decode cX7_hearsOn 27 = .ok (.iconst 1, 1) := by decide +kernel
theorem dX7_hearsOn_28 : decode cX7_hearsOn 28 = .ok (.iadd, 1) := by decide +kernel
theorem dX7_hearsOn_29 : decode cX7_hearsOn 29 = .ok (.iload 4, 2) := by decide +kernel
theorem dX7_hearsOn_31 : decode cX7_hearsOn 31 = .ok (.invokevirtual 164, 3) := by decide +kernel
theorem dX7_hearsOn_34 : decode cX7_hearsOn 34 = .ok (.istore 6, 2) := by decide +kernel
theorem dX7_hearsOn_36 : decode cX7_hearsOn 36 = .ok (.iload 5, 2) := by decide +kernel
theorem dX7_hearsOn_38 : decode cX7_hearsOn 38 = .ok (.ifCond .ne 53, 3) := by decide +kernel
theorem dX7_hearsOn_41 : decode cX7_hearsOn 41 = .ok (.iload 6, 2) := by decide +kernel
theorem dX7_hearsOn_43 : decode cX7_hearsOn 43 = .ok (.ifCond .ne 48, 3) := by decide +kernel
theorem dX7_hearsOn_46 : decode cX7_hearsOn 46 = .ok (.iload 4, 2) := by decide +kernel
theorem dX7_hearsOn_48 : decode cX7_hearsOn 48 = .ok (.aload_n 0, 1) := by decide +kernel
theorem dX7_hearsOn_49 : decode cX7_hearsOn 49 = .ok (.getfield 7, 3) := by decide +kernel
theorem dX7_hearsOn_52 : decode cX7_hearsOn 52 = .ok (.iload_n 1, 1) := by decide +kernel
theorem dX7_hearsOn_53 : decode cX7_hearsOn 53 = .ok (.bipush 43, 2) := by decide +kernel
theorem dX7_hearsOn_55 : decode cX7_hearsOn 55 = .ok (.iadd, 1) := by decide +kernel
theorem dX7_hearsOn_56 : decode cX7_hearsOn 56 = .ok (.iload_n 3, 1) := by decide +kernel
theorem dX7_hearsOn_57 : decode cX7_hearsOn 57 = .ok (.iadd, 1) := by decide +kernel
theorem dX7_hearsOn_58 : decode cX7_hearsOn 58 = .ok (.iaload, 1) := by decide +kernel
theorem dX7_hearsOn_59 : decode cX7_hearsOn 59 = .ok (.if_icmp .ne 32, 3) := by decide +kernel
theorem dX7_hearsOn_62 : decode cX7_hearsOn 62 = .ok (.aload_n 0, 1) := by decide +kernel
theorem dX7_hearsOn_63 : decode cX7_hearsOn 63 = .ok (.iload_n 1, 1) := by decide +kernel
theorem dX7_hearsOn_64 : decode cX7_hearsOn 64 = .ok (.iload_n 2, 1) := by decide +kernel
theorem dX7_hearsOn_65 : decode cX7_hearsOn 65 = .ok (.iload_n 3, 1) := by decide +kernel
theorem dX7_hearsOn_66 : decode cX7_hearsOn 66 = .ok (.invokevirtual 167, 3) := by decide +kernel
theorem dX7_hearsOn_69 : decode cX7_hearsOn 69 = .ok (.ifCond .ne 7, 3) := by decide +kernel
theorem dX7_hearsOn_72 : decode cX7_hearsOn 72 = .ok (.iconst 1, 1) := by decide +kernel
theorem dX7_hearsOn_73 : decode cX7_hearsOn 73 = .ok (.goto 4, 3) := by decide +kernel
theorem dX7_hearsOn_76 : decode cX7_hearsOn 76 = .ok (.iconst 0, 1) := by decide +kernel
theorem dX7_hearsOn_77 : decode cX7_hearsOn 77 = .ok (.istore 5, 2) := by decide +kernel
theorem dX7_hearsOn_79 : decode cX7_hearsOn 79 = .ok (.iload 5, 2) := by decide +kernel
theorem dX7_hearsOn_81 : decode cX7_hearsOn 81 = .ok (.ifCond .ne 7, 3) := by decide +kernel
theorem dX7_hearsOn_84 : decode cX7_hearsOn 84 = .ok (.iconst 1, 1) := by decide +kernel
theorem dX7_hearsOn_85 : decode cX7_hearsOn 85 = .ok (.goto 4, 3) := by decide +kernel
theorem dX7_hearsOn_88 : decode cX7_hearsOn 88 = .ok (.iconst 0, 1) := by decide +kernel
theorem dX7_hearsOn_89 : decode cX7_hearsOn 89 = .ok (.istore 6, 2) := by decide +kernel
theorem dX7_hearsOn_91 : decode cX7_hearsOn 91 = .ok (.iload 5, 2) := by decide +kernel
theorem dX7_hearsOn_93 : decode cX7_hearsOn 93 = .ok (.ifCond .ne 8, 3) := by decide +kernel
theorem dX7_hearsOn_96 : decode cX7_hearsOn 96 = .ok (.iload 6, 2) := by decide +kernel
theorem dX7_hearsOn_98 : decode cX7_hearsOn 98 = .ok (.ifCond .eq 34, 3) := by decide +kernel
theorem dX7_hearsOn_101 : decode cX7_hearsOn 101 = .ok (.aload_n 0, 1) := by decide +kernel
theorem dX7_hearsOn_102 : decode cX7_hearsOn 102 = .ok (.iload 4, 2) := by decide +kernel
theorem dX7_hearsOn_104 : decode cX7_hearsOn 104 = .ok (.putfield 171, 3) := by decide +kernel
theorem dX7_hearsOn_107 : decode cX7_hearsOn 107 = .ok (.iload 5, 2) := by decide +kernel
theorem dX7_hearsOn_109 : decode cX7_hearsOn 109 = .ok (.ifCond .eq 12, 3) := by decide +kernel
theorem dX7_hearsOn_112 : decode cX7_hearsOn 112 = .ok (.iload 6, 2) := by decide +kernel
theorem dX7_hearsOn_114 : decode cX7_hearsOn 114 = .ok (.ifCond .eq 7, 3) := by decide +kernel
theorem dX7_hearsOn_117 : decode cX7_hearsOn 117 = .ok (.iconst 3, 1) := by decide +kernel
theorem dX7_hearsOn_118 : decode cX7_hearsOn 118 = .ok (.goto 13, 3) := by decide +kernel
theorem dX7_hearsOn_121 : decode cX7_hearsOn 121 = .ok (.iload 5, 2) := by decide +kernel
theorem dX7_hearsOn_123 : decode cX7_hearsOn 123 = .ok (.ifCond .eq 7, 3) := by decide +kernel
theorem dX7_hearsOn_126 : decode cX7_hearsOn 126 = .ok (.iconst 2, 1) := by decide +kernel
theorem dX7_hearsOn_127 : decode cX7_hearsOn 127 = .ok (.goto 4, 3) := by decide +kernel
theorem dX7_hearsOn_130 : decode cX7_hearsOn 130 = .ok (.iconst 1, 1) := by decide +kernel
theorem dX7_hearsOn_131 : decode cX7_hearsOn 131 = .ok (.ireturn, 1) := by decide +kernel
theorem dX7_hearsOn_132 : decode cX7_hearsOn 132 = .ok (.aload_n 0, 1) := by decide +kernel
theorem dX7_hearsOn_133 : decode cX7_hearsOn 133 = .ok (.iload_n 1, 1) := by decide +kernel
theorem dX7_hearsOn_134 : decode cX7_hearsOn 134 = .ok (.iconst 2, 1) := by decide +kernel
theorem dX7_hearsOn_135 : decode cX7_hearsOn 135 = .ok (.iload_n 2, 1) := by decide +kernel
theorem dX7_hearsOn_136 : decode cX7_hearsOn 136 = .ok (.imul, 1) := by decide +kernel
theorem dX7_hearsOn_137 : decode cX7_hearsOn 137 = .ok (.invokevirtual 174, 3) := by decide +kernel
theorem dX7_hearsOn_140 : decode cX7_hearsOn 140 = .ok (.aload_n 0, 1) := by decide +kernel
theorem dX7_hearsOn_141 : decode cX7_hearsOn 141 = .ok (.iload_n 1, 1) := by decide +kernel
theorem dX7_hearsOn_142 : decode cX7_hearsOn 142 = .ok (.iconst 2, 1) := by decide +kernel
theorem dX7_hearsOn_143 : decode cX7_hearsOn 143 = .ok (.iload_n 2, 1) := by decide +kernel
theorem dX7_hearsOn_144 : decode cX7_hearsOn 144 = .ok (.imul, 1) := by decide +kernel
theorem dX7_hearsOn_145 : decode cX7_hearsOn 145 = .ok (.iconst 1, 1) := by decide +kernel
theorem dX7_hearsOn_146 : decode cX7_hearsOn 146 = .ok (.iadd, 1) := by decide +kernel
theorem dX7_hearsOn_147 : decode cX7_hearsOn 147 = .ok (.invokevirtual 174, 3) := by decide +kernel
theorem dX7_hearsOn_150 : decode cX7_hearsOn 150 = .ok (.iinc 4 1, 3) := by decide +kernel
theorem dX7_hearsOn_153 : decode cX7_hearsOn 153 = .ok (.goto (-150), 3) := by decide +kernel
theorem dX7_hearsOn_156 : decode cX7_hearsOn 156 = .ok (.iconst 0, 1) := by decide +kernel
theorem dX7_hearsOn_157 : decode cX7_hearsOn 157 = .ok (.ireturn, 1) := by decide +kernel
theorem dX7_wonOn_0 : decode cX7_wonOn 0 = .ok (.iconst 0, 1) := by decide +kernel
theorem dX7_wonOn_1 : decode cX7_wonOn 1 = .ok (.istore_n 3, 1) := by decide +kernel
theorem dX7_wonOn_2 : decode cX7_wonOn 2 = .ok (.iconst 0, 1) := by decide +kernel
theorem dX7_wonOn_3 : decode cX7_wonOn 3 = .ok (.istore 4, 2) := by decide +kernel
theorem dX7_wonOn_5 : decode cX7_wonOn 5 = .ok (.iload 4, 2) := by decide +kernel
theorem dX7_wonOn_7 : decode cX7_wonOn 7 = .ok (.aload_n 0, 1) := by decide +kernel
theorem dX7_wonOn_8 : decode cX7_wonOn 8 = .ok (.getfield 142, 3) := by decide +kernel
theorem dX7_wonOn_11 : decode cX7_wonOn 11 = .ok (.if_icmp .ge 36, 3) := by decide +kernel
theorem dX7_wonOn_14 : decode cX7_wonOn 14 = .ok (.iload_n 3, 1) := by decide +kernel
theorem dX7_wonOn_15 : decode cX7_wonOn 15 = .ok (.aload_n 0, 1) := by decide +kernel
theorem dX7_wonOn_16 : decode cX7_wonOn 16 = .ok (.getfield 7, 3) := by decide +kernel
theorem dX7_wonOn_19 : decode cX7_wonOn 19 = .ok (.iload_n 1, 1) := by decide +kernel
theorem dX7_wonOn_20 : decode cX7_wonOn 20 = .ok (.bipush 24, 2) := by decide +kernel
theorem dX7_wonOn_22 : decode cX7_wonOn 22 = .ok (.iadd, 1) := by decide +kernel
theorem dX7_wonOn_23 : decode cX7_wonOn 23 = .ok (.iload 4, 2) := by decide +kernel
theorem dX7_wonOn_25 : decode cX7_wonOn 25 = .ok (.iadd, 1) := by decide +kernel
theorem dX7_wonOn_26 : decode cX7_wonOn 26 = .ok (.iaload, 1) := by decide +kernel
theorem dX7_wonOn_27 : decode cX7_wonOn 27 = .ok (.iload_n 2, 1) := by decide +kernel
theorem dX7_wonOn_28 : decode cX7_wonOn 28 = .ok (.if_icmp .ne 10, 3) := by decide +kernel
theorem dX7_wonOn_31 : decode cX7_wonOn 31 = .ok (.iconst 1, 1) := by decide +kernel
theorem dX7_wonOn_32 : decode cX7_wonOn 32 = .ok (.iload 4, 2) := by decide +kernel
theorem dX7_wonOn_34 : decode cX7_wonOn 34 = .ok (.ishl, 1) := by decide +kernel
theorem dX7_wonOn_35 : decode cX7_wonOn 35 = .ok (.goto 4, 3) := by decide +kernel
theorem dX7_wonOn_38 : decode cX7_wonOn 38 = .ok (.iconst 0, 1) := by decide +kernel
theorem dX7_wonOn_39 : decode cX7_wonOn 39 = .ok (.ior, 1) := by decide +kernel
theorem dX7_wonOn_40 : decode cX7_wonOn 40 = .ok (.istore_n 3, 1) := by decide +kernel
theorem dX7_wonOn_41 : decode cX7_wonOn 41 = .ok (.iinc 4 1, 3) := by decide +kernel
theorem dX7_wonOn_44 : decode cX7_wonOn 44 = .ok (.goto (-39), 3) := by decide +kernel
theorem dX7_wonOn_47 : decode cX7_wonOn 47 = .ok (.iload_n 3, 1) := by decide +kernel
theorem dX7_wonOn_48 : decode cX7_wonOn 48 = .ok (.ireturn, 1) := by decide +kernel
theorem dX7_lengthsOn_0 : decode cX7_lengthsOn 0 = .ok (.iconst 0, 1) := by decide +kernel
theorem dX7_lengthsOn_1 : decode cX7_lengthsOn 1 = .ok (.istore_n 2, 1) := by decide +kernel
theorem dX7_lengthsOn_2 : decode cX7_lengthsOn 2 = .ok (.iconst 0, 1) := by decide +kernel
theorem dX7_lengthsOn_3 : decode cX7_lengthsOn 3 = .ok (.istore_n 3, 1) := by decide +kernel
theorem dX7_lengthsOn_4 : decode cX7_lengthsOn 4 = .ok (.iload_n 3, 1) := by decide +kernel
theorem dX7_lengthsOn_5 : decode cX7_lengthsOn 5 = .ok (.iconst 2, 1) := by decide +kernel
theorem dX7_lengthsOn_6 : decode cX7_lengthsOn 6 = .ok (.aload_n 0, 1) := by decide +kernel
theorem dX7_lengthsOn_7 : decode cX7_lengthsOn 7 = .ok (.getfield 142, 3) := by decide +kernel
theorem dX7_lengthsOn_10 : decode cX7_lengthsOn 10 = .ok (.imul, 1) := by decide +kernel
theorem dX7_lengthsOn_11 : decode cX7_lengthsOn 11 = .ok (.if_icmp .ge 23, 3) := by decide +kernel
theorem dX7_lengthsOn_14 : decode cX7_lengthsOn 14 = .ok (.iload_n 2, 1) := by decide +kernel
theorem dX7_lengthsOn_15 : decode cX7_lengthsOn 15 = .ok (.aload_n 0, 1) := by decide +kernel
theorem dX7_lengthsOn_16 : decode cX7_lengthsOn 16 = .ok (.getfield 7, 3) := by decide +kernel
theorem dX7_lengthsOn_19 : decode cX7_lengthsOn 19 = .ok (.iload_n 1, 1) := by decide +kernel
theorem dX7_lengthsOn_20 : decode cX7_lengthsOn 20 = .ok (.bipush 8, 2) := by decide +kernel
theorem dX7_lengthsOn_22 : decode cX7_lengthsOn 22 = .ok (.iadd, 1) := by decide +kernel
theorem dX7_lengthsOn_23 : decode cX7_lengthsOn 23 = .ok (.iload_n 3, 1) := by decide +kernel
theorem dX7_lengthsOn_24 : decode cX7_lengthsOn 24 = .ok (.iadd, 1) := by decide +kernel
theorem dX7_lengthsOn_25 : decode cX7_lengthsOn 25 = .ok (.iaload, 1) := by decide +kernel
theorem dX7_lengthsOn_26 : decode cX7_lengthsOn 26 = .ok (.iadd, 1) := by decide +kernel
theorem dX7_lengthsOn_27 : decode cX7_lengthsOn 27 = .ok (.istore_n 2, 1) := by decide +kernel
theorem dX7_lengthsOn_28 : decode cX7_lengthsOn 28 = .ok (.iinc 3 1, 3) := by decide +kernel
theorem dX7_lengthsOn_31 : decode cX7_lengthsOn 31 = .ok (.goto (-27), 3) := by decide +kernel
theorem dX7_lengthsOn_34 : decode cX7_lengthsOn 34 = .ok (.iload_n 2, 1) := by decide +kernel
theorem dX7_lengthsOn_35 : decode cX7_lengthsOn 35 = .ok (.ireturn, 1) := by decide +kernel
theorem dX7_lengthOf_0 : decode cX7_lengthOf 0 = .ok (.aload_n 0, 1) := by decide +kernel
theorem dX7_lengthOf_1 : decode cX7_lengthOf 1 = .ok (.getfield 7, 3) := by decide +kernel
theorem dX7_lengthOf_4 : decode cX7_lengthOf 4 = .ok (.iload_n 1, 1) := by decide +kernel
theorem dX7_lengthOf_5 : decode cX7_lengthOf 5 = .ok (.bipush 8, 2) := by decide +kernel
theorem dX7_lengthOf_7 : decode cX7_lengthOf 7 = .ok (.iadd, 1) := by decide +kernel
theorem dX7_lengthOf_8 : decode cX7_lengthOf 8 = .ok (.iconst 2, 1) := by decide +kernel
theorem dX7_lengthOf_9 : decode cX7_lengthOf 9 = .ok (.iload_n 2, 1) := by decide +kernel
theorem dX7_lengthOf_10 : decode cX7_lengthOf 10 = .ok (.imul, 1) := by decide +kernel
theorem dX7_lengthOf_11 : decode cX7_lengthOf 11 = .ok (.iadd, 1) := by decide +kernel
theorem dX7_lengthOf_12 : decode cX7_lengthOf 12 = .ok (.iaload, 1) := by decide +kernel
theorem dX7_lengthOf_13 : decode cX7_lengthOf 13 = .ok (.aload_n 0, 1) := by decide +kernel
theorem dX7_lengthOf_14 : decode cX7_lengthOf 14 = .ok (.getfield 7, 3) := by decide +kernel
theorem dX7_lengthOf_17 : decode cX7_lengthOf 17 = .ok (.iload_n 1, 1) := by decide +kernel
theorem dX7_lengthOf_18 : decode cX7_lengthOf 18 = .ok (.bipush 8, 2) := by decide +kernel
theorem dX7_lengthOf_20 : decode cX7_lengthOf 20 = .ok (.iadd, 1) := by decide +kernel
theorem dX7_lengthOf_21 : decode cX7_lengthOf 21 = .ok (.iconst 2, 1) := by decide +kernel
theorem dX7_lengthOf_22 : decode cX7_lengthOf 22 = .ok (.iload_n 2, 1) := by decide +kernel
theorem dX7_lengthOf_23 : decode cX7_lengthOf 23 = .ok (.imul, 1) := by decide +kernel
theorem dX7_lengthOf_24 : decode cX7_lengthOf 24 = .ok (.iadd, 1) := by decide +kernel
theorem dX7_lengthOf_25 : decode cX7_lengthOf 25 = .ok (.iconst 1, 1) := by decide +kernel
theorem dX7_lengthOf_26 : decode cX7_lengthOf 26 = .ok (.iadd, 1) := by decide +kernel
theorem dX7_lengthOf_27 : decode cX7_lengthOf 27 = .ok (.iaload, 1) := by decide +kernel
theorem dX7_lengthOf_28 : decode cX7_lengthOf 28 = .ok (.iadd, 1) := by decide +kernel
theorem dX7_lengthOf_29 : decode cX7_lengthOf 29 = .ok (.ireturn, 1) := by decide +kernel
set_option maxRecDepth 20000 in
theorem ggX7_rule_X7_wonOn : GoodIn wsX7_rule wsX7_wonOn := goodIn_r _ [8, 1, 3, 13, 14, 15, 16, 17, 18, 19, 20, 21, 22, 23, 24, 25, 26, 27, 28, 29, 30, 31, 32, 33, 34, 35, 36, 37, 38, 39, 40, 41, 42, 43, 44, 45, 46, 47, 48] (by decide +kernel) (by decide +kernel)
set_option maxRecDepth 20000 in
theorem gX7_rule_X7_wonOn : GoodIn wsX7_rule (wsV RX7 178 RX7 yX7_wonOn wsX7_wonOn) := goodIn_app (goodIn_of _ (by decide +kernel)) ggX7_rule_X7_wonOn
set_option maxRecDepth 20000 in
theorem ggX7_rule_X7_lengthsOn : GoodIn wsX7_rule wsX7_lengthsOn := goodIn_r _ [12, 1, 3, 13, 14, 15, 16, 17, 18, 19, 20, 21, 22, 23, 24, 25, 26, 27, 28, 29, 30, 31, 32, 33, 34, 35, 36, 37, 38, 39, 40, 41, 42, 43, 44, 45, 46, 47, 48] (by decide +kernel) (by decide +kernel)
set_option maxRecDepth 20000 in
theorem gX7_rule_X7_lengthsOn : GoodIn wsX7_rule (wsV RX7 181 RX7 yX7_lengthsOn wsX7_lengthsOn) := goodIn_app (goodIn_of _ (by decide +kernel)) ggX7_rule_X7_lengthsOn
theorem dX7_rule_0 : decode cX7_rule 0 = .ok (.iload_n 1, 1) := by decide +kernel
theorem dX7_rule_1 : decode cX7_rule 1 = .ok (.tableswitch 88 0 7 #[47, 52, 57, 65, 73, 73, 73, 82], 47) := by decide +kernel
theorem dX7_rule_48 : decode cX7_rule 48 = .ok (.aload_n 0, 1) := by decide +kernel
theorem dX7_rule_49 : decode cX7_rule 49 = .ok (.getfield 142, 3) := by decide +kernel
theorem dX7_rule_52 : decode cX7_rule 52 = .ok (.ireturn, 1) := by decide +kernel
theorem dX7_rule_53 : decode cX7_rule 53 = .ok (.aload_n 0, 1) := by decide +kernel
theorem dX7_rule_54 : decode cX7_rule 54 = .ok (.getfield 145, 3) := by decide +kernel
theorem dX7_rule_57 : decode cX7_rule 57 = .ok (.ireturn, 1) := by decide +kernel
theorem dX7_rule_58 : decode cX7_rule 58 = .ok (.aload_n 0, 1) := by decide +kernel
theorem dX7_rule_59 : decode cX7_rule 59 = .ok (.getfield 7, 3) := by decide +kernel
theorem dX7_rule_62 : decode cX7_rule 62 = .ok (.bipush 46, 2) := by decide +kernel
theorem dX7_rule_64 : decode cX7_rule 64 = .ok (.iaload, 1) := by decide +kernel
theorem dX7_rule_65 : decode cX7_rule 65 = .ok (.ireturn, 1) := by decide +kernel
theorem dX7_rule_66 : decode cX7_rule 66 = .ok (.aload_n 0, 1) := by decide +kernel
theorem dX7_rule_67 : decode cX7_rule 67 = .ok (.getfield 7, 3) := by decide +kernel
theorem dX7_rule_70 : decode cX7_rule 70 = .ok (.bipush 55, 2) := by decide +kernel
theorem dX7_rule_72 : decode cX7_rule 72 = .ok (.iaload, 1) := by decide +kernel
theorem dX7_rule_73 : decode cX7_rule 73 = .ok (.ireturn, 1) := by decide +kernel
theorem dX7_rule_74 : decode cX7_rule 74 = .ok (.aload_n 0, 1) := by decide +kernel
theorem dX7_rule_75 : decode cX7_rule 75 = .ok (.iconst 0, 1) := by decide +kernel
theorem dX7_rule_76 : decode cX7_rule 76 = .ok (.iload_n 1, 1) := by decide +kernel
theorem dX7_rule_77 : decode cX7_rule 77 = .ok (.iconst 3, 1) := by decide +kernel
theorem dX7_rule_78 : decode cX7_rule 78 = .ok (.isub, 1) := by decide +kernel
theorem dX7_rule_79 : decode cX7_rule 79 = .ok (.invokevirtual 178, 3) := by decide +kernel
theorem dX7_rule_82 : decode cX7_rule 82 = .ok (.ireturn, 1) := by decide +kernel
theorem dX7_rule_83 : decode cX7_rule 83 = .ok (.aload_n 0, 1) := by decide +kernel
theorem dX7_rule_84 : decode cX7_rule 84 = .ok (.iconst 0, 1) := by decide +kernel
theorem dX7_rule_85 : decode cX7_rule 85 = .ok (.invokevirtual 181, 3) := by decide +kernel
theorem dX7_rule_88 : decode cX7_rule 88 = .ok (.ireturn, 1) := by decide +kernel
theorem dX7_rule_89 : decode cX7_rule 89 = .ok (.iconst (-1), 1) := by decide +kernel
theorem dX7_rule_90 : decode cX7_rule 90 = .ok (.ireturn, 1) := by decide +kernel
set_option maxRecDepth 20000 in
theorem ggX7_flame_X7_isCase : GoodIn wsX7_flame wsX7_isCase := goodIn_r _ [8, 9, 10, 11, 7, 12, 16, 17, 18, 19, 20, 21, 22, 23, 24, 25, 26, 27, 28, 29, 30, 31, 32, 33, 34, 35, 36, 37, 38, 39, 40, 41, 42, 43, 44, 45, 46, 47, 48, 49, 50, 51] (by decide +kernel) (by decide +kernel)
set_option maxRecDepth 20000 in
theorem gX7_flame_X7_isCase : GoodIn wsX7_flame (wsV RX7 184 RX7 yX7_isCase wsX7_isCase) := goodIn_app (goodIn_of _ (by decide +kernel)) ggX7_flame_X7_isCase
set_option maxRecDepth 20000 in
theorem ggX7_flame_X7_isSide : GoodIn wsX7_flame wsX7_isSide := goodIn_r _ [15, 10, 11, 7, 12] (by decide +kernel) (by decide +kernel)
set_option maxRecDepth 20000 in
theorem gX7_flame_X7_isSide : GoodIn wsX7_flame (va_wsS RX7 188 yX7_isSide wsX7_isSide) := goodIn_app (goodIn_of _ (by decide +kernel)) ggX7_flame_X7_isSide
set_option maxRecDepth 20000 in
theorem ggX7_flame_X7_in : GoodIn wsX7_flame wsX7_in := goodIn_r _ [12] (by decide +kernel) (by decide +kernel)
set_option maxRecDepth 20000 in
theorem gX7_flame_X7_in : GoodIn wsX7_flame (va_wsS RX7 52 yX7_in wsX7_in) := goodIn_app (goodIn_of _ (by decide +kernel)) ggX7_flame_X7_in
theorem dX7_flame_0 : decode cX7_flame 0 = .ok (.aload_n 0, 1) := by decide +kernel
theorem dX7_flame_1 : decode cX7_flame 1 = .ok (.iload_n 1, 1) := by decide +kernel
theorem dX7_flame_2 : decode cX7_flame 2 = .ok (.invokevirtual 184, 3) := by decide +kernel
theorem dX7_flame_5 : decode cX7_flame 5 = .ok (.ifCond .eq 22, 3) := by decide +kernel
theorem dX7_flame_8 : decode cX7_flame 8 = .ok (.iload_n 2, 1) := by decide +kernel
theorem dX7_flame_9 : decode cX7_flame 9 = .ok (.invokestatic 188, 3) := by decide +kernel
theorem dX7_flame_12 : decode cX7_flame 12 = .ok (.ifCond .eq 15, 3) := by decide +kernel
theorem dX7_flame_15 : decode cX7_flame 15 = .ok (.iload_n 3, 1) := by decide +kernel
theorem dX7_flame_16 : decode cX7_flame 16 = .ok (.i2l, 1) := by decide +kernel
theorem dX7_flame_17 : decode cX7_flame 17 = .ok (.lconst 0, 1) := by decide +kernel
theorem dX7_flame_18 : decode cX7_flame 18 = .ok (.ldc2_w 101, 3) := by decide +kernel
theorem dX7_flame_21 : decode cX7_flame 21 = .ok (.invokestatic 52, 3) := by decide +kernel
theorem dX7_flame_24 : decode cX7_flame 24 = .ok (.ifCond .ne 5, 3) := by decide +kernel
theorem dX7_flame_27 : decode cX7_flame 27 = .ok (.iconst (-1), 1) := by decide +kernel
theorem dX7_flame_28 : decode cX7_flame 28 = .ok (.ireturn, 1) := by decide +kernel
theorem dX7_flame_29 : decode cX7_flame 29 = .ok (.iload_n 3, 1) := by decide +kernel
theorem dX7_flame_30 : decode cX7_flame 30 = .ok (.iconst 3, 1) := by decide +kernel
theorem dX7_flame_31 : decode cX7_flame 31 = .ok (.if_icmp .ne 21, 3) := by decide +kernel
theorem dX7_flame_34 : decode cX7_flame 34 = .ok (.aload_n 0, 1) := by decide +kernel
theorem dX7_flame_35 : decode cX7_flame 35 = .ok (.getfield 13, 3) := by decide +kernel
theorem dX7_flame_38 : decode cX7_flame 38 = .ok (.aload_n 0, 1) := by decide +kernel
theorem dX7_flame_39 : decode cX7_flame 39 = .ok (.getfield 7, 3) := by decide +kernel
theorem dX7_flame_42 : decode cX7_flame 42 = .ok (.iconst 2, 1) := by decide +kernel
theorem dX7_flame_43 : decode cX7_flame 43 = .ok (.iload_n 1, 1) := by decide +kernel
theorem dX7_flame_44 : decode cX7_flame 44 = .ok (.imul, 1) := by decide +kernel
theorem dX7_flame_45 : decode cX7_flame 45 = .ok (.iload_n 2, 1) := by decide +kernel
theorem dX7_flame_46 : decode cX7_flame 46 = .ok (.iadd, 1) := by decide +kernel
theorem dX7_flame_47 : decode cX7_flame 47 = .ok (.iaload, 1) := by decide +kernel
theorem dX7_flame_48 : decode cX7_flame 48 = .ok (.iaload, 1) := by decide +kernel
theorem dX7_flame_49 : decode cX7_flame 49 = .ok (.goto 18, 3) := by decide +kernel
theorem dX7_flame_52 : decode cX7_flame 52 = .ok (.aload_n 0, 1) := by decide +kernel
theorem dX7_flame_53 : decode cX7_flame 53 = .ok (.getfield 7, 3) := by decide +kernel
theorem dX7_flame_56 : decode cX7_flame 56 = .ok (.bipush 8, 2) := by decide +kernel
theorem dX7_flame_58 : decode cX7_flame 58 = .ok (.iload_n 3, 1) := by decide +kernel
theorem dX7_flame_59 : decode cX7_flame 59 = .ok (.imul, 1) := by decide +kernel
theorem dX7_flame_60 : decode cX7_flame 60 = .ok (.iconst 2, 1) := by decide +kernel
theorem dX7_flame_61 : decode cX7_flame 61 = .ok (.iload_n 1, 1) := by decide +kernel
theorem dX7_flame_62 : decode cX7_flame 62 = .ok (.imul, 1) := by decide +kernel
theorem dX7_flame_63 : decode cX7_flame 63 = .ok (.iadd, 1) := by decide +kernel
theorem dX7_flame_64 : decode cX7_flame 64 = .ok (.iload_n 2, 1) := by decide +kernel
theorem dX7_flame_65 : decode cX7_flame 65 = .ok (.iadd, 1) := by decide +kernel
theorem dX7_flame_66 : decode cX7_flame 66 = .ok (.iaload, 1) := by decide +kernel
theorem dX7_flame_67 : decode cX7_flame 67 = .ok (.ireturn, 1) := by decide +kernel
set_option maxRecDepth 20000 in
theorem ggX7_suit_X7_isCase : GoodIn wsX7_suit wsX7_isCase := goodIn_r _ [7, 8, 9, 10, 6, 11, 12, 13, 14, 15, 16, 17, 18, 19, 20, 21, 22, 23, 24, 25, 26, 27, 28, 29, 30, 31, 32, 33, 34, 35, 36, 37, 38, 39, 40, 41, 42, 43, 44, 45, 46, 47] (by decide +kernel) (by decide +kernel)
set_option maxRecDepth 20000 in
theorem gX7_suit_X7_isCase : GoodIn wsX7_suit (wsV RX7 184 RX7 yX7_isCase wsX7_isCase) := goodIn_app (goodIn_of _ (by decide +kernel)) ggX7_suit_X7_isCase
set_option maxRecDepth 20000 in
theorem ggX7_suit_X7_in : GoodIn wsX7_suit wsX7_in := goodIn_r _ [11] (by decide +kernel) (by decide +kernel)
set_option maxRecDepth 20000 in
theorem gX7_suit_X7_in : GoodIn wsX7_suit (va_wsS RX7 52 yX7_in wsX7_in) := goodIn_app (goodIn_of _ (by decide +kernel)) ggX7_suit_X7_in
theorem dX7_suit_0 : decode cX7_suit 0 = .ok (.aload_n 0, 1) := by decide +kernel
theorem dX7_suit_1 : decode cX7_suit 1 = .ok (.iload_n 1, 1) := by decide +kernel
theorem dX7_suit_2 : decode cX7_suit 2 = .ok (.invokevirtual 184, 3) := by decide +kernel
theorem dX7_suit_5 : decode cX7_suit 5 = .ok (.ifCond .eq 15, 3) := by decide +kernel
theorem dX7_suit_8 : decode cX7_suit 8 = .ok (.iload_n 2, 1) := by decide +kernel
theorem dX7_suit_9 : decode cX7_suit 9 = .ok (.i2l, 1) := by decide +kernel
theorem dX7_suit_10 : decode cX7_suit 10 = .ok (.lconst 0, 1) := by decide +kernel
theorem dX7_suit_11 : decode cX7_suit 11 = .ok (.ldc2_w 101, 3) := by decide +kernel
theorem dX7_suit_14 : decode cX7_suit 14 = .ok (.invokestatic 52, 3) := by decide +kernel
theorem dX7_suit_17 : decode cX7_suit 17 = .ok (.ifCond .ne 5, 3) := by decide +kernel
theorem dX7_suit_20 : decode cX7_suit 20 = .ok (.iconst (-1), 1) := by decide +kernel
theorem dX7_suit_21 : decode cX7_suit 21 = .ok (.ireturn, 1) := by decide +kernel
theorem dX7_suit_22 : decode cX7_suit 22 = .ok (.aload_n 0, 1) := by decide +kernel
theorem dX7_suit_23 : decode cX7_suit 23 = .ok (.getfield 7, 3) := by decide +kernel
theorem dX7_suit_26 : decode cX7_suit 26 = .ok (.bipush 24, 2) := by decide +kernel
theorem dX7_suit_28 : decode cX7_suit 28 = .ok (.iconst 4, 1) := by decide +kernel
theorem dX7_suit_29 : decode cX7_suit 29 = .ok (.iload_n 2, 1) := by decide +kernel
theorem dX7_suit_30 : decode cX7_suit 30 = .ok (.imul, 1) := by decide +kernel
theorem dX7_suit_31 : decode cX7_suit 31 = .ok (.iadd, 1) := by decide +kernel
theorem dX7_suit_32 : decode cX7_suit 32 = .ok (.iload_n 1, 1) := by decide +kernel
theorem dX7_suit_33 : decode cX7_suit 33 = .ok (.iadd, 1) := by decide +kernel
theorem dX7_suit_34 : decode cX7_suit 34 = .ok (.iaload, 1) := by decide +kernel
theorem dX7_suit_35 : decode cX7_suit 35 = .ok (.istore_n 3, 1) := by decide +kernel
theorem dX7_suit_36 : decode cX7_suit 36 = .ok (.iload_n 2, 1) := by decide +kernel
theorem dX7_suit_37 : decode cX7_suit 37 = .ok (.iconst 2, 1) := by decide +kernel
theorem dX7_suit_38 : decode cX7_suit 38 = .ok (.if_icmp .ge 7, 3) := by decide +kernel
theorem dX7_suit_41 : decode cX7_suit 41 = .ok (.iload_n 3, 1) := by decide +kernel
theorem dX7_suit_42 : decode cX7_suit 42 = .ok (.goto 15, 3) := by decide +kernel
theorem dX7_suit_45 : decode cX7_suit 45 = .ok (.iload_n 3, 1) := by decide +kernel
theorem dX7_suit_46 : decode cX7_suit 46 = .ok (.ifCond .ne 8, 3) := by decide +kernel
theorem dX7_suit_49 : decode cX7_suit 49 = .ok (.bipush (-4), 2) := by decide +kernel
theorem dX7_suit_51 : decode cX7_suit 51 = .ok (.goto 6, 3) := by decide +kernel
theorem dX7_suit_54 : decode cX7_suit 54 = .ok (.iload_n 3, 1) := by decide +kernel
theorem dX7_suit_55 : decode cX7_suit 55 = .ok (.iconst 1, 1) := by decide +kernel
theorem dX7_suit_56 : decode cX7_suit 56 = .ok (.isub, 1) := by decide +kernel
theorem dX7_suit_57 : decode cX7_suit 57 = .ok (.ireturn, 1) := by decide +kernel
set_option maxRecDepth 20000 in
theorem ggX7_judge_X7_isJudge : GoodIn wsX7_judge wsX7_isJudge := goodIn_r _ [6, 7, 8, 9, 5, 10, 11, 12, 13, 14, 15, 16, 17, 18, 19, 20, 21, 22, 23, 24, 25, 26, 27, 28, 29, 30, 31, 32, 33, 34, 35, 36, 37, 38, 39, 40, 41, 42, 43, 44, 45, 46] (by decide +kernel) (by decide +kernel)
set_option maxRecDepth 20000 in
theorem gX7_judge_X7_isJudge : GoodIn wsX7_judge (wsV RX7 191 RX7 yX7_isJudge wsX7_isJudge) := goodIn_app (goodIn_of _ (by decide +kernel)) ggX7_judge_X7_isJudge
set_option maxRecDepth 20000 in
theorem ggX7_judge_X7_in : GoodIn wsX7_judge wsX7_in := goodIn_r _ [10] (by decide +kernel) (by decide +kernel)
set_option maxRecDepth 20000 in
theorem gX7_judge_X7_in : GoodIn wsX7_judge (va_wsS RX7 52 yX7_in wsX7_in) := goodIn_app (goodIn_of _ (by decide +kernel)) ggX7_judge_X7_in
theorem dX7_judge_0 : decode cX7_judge 0 = .ok (.aload_n 0, 1) := by decide +kernel
theorem dX7_judge_1 : decode cX7_judge 1 = .ok (.iload_n 1, 1) := by decide +kernel
theorem dX7_judge_2 : decode cX7_judge 2 = .ok (.invokevirtual 191, 3) := by decide +kernel
theorem dX7_judge_5 : decode cX7_judge 5 = .ok (.ifCond .eq 29, 3) := by decide +kernel
theorem dX7_judge_8 : decode cX7_judge 8 = .ok (.iload_n 2, 1) := by decide +kernel
theorem dX7_judge_9 : decode cX7_judge 9 = .ok (.i2l, 1) := by decide +kernel
theorem dX7_judge_10 : decode cX7_judge 10 = .ok (.lconst 0, 1) := by decide +kernel
theorem dX7_judge_11 : decode cX7_judge 11 = .ok (.lconst 1, 1) := by decide +kernel
theorem dX7_judge_12 : decode cX7_judge 12 = .ok (.invokestatic 52, 3) := by decide +kernel
theorem dX7_judge_15 : decode cX7_judge 15 = .ok (.ifCond .eq 19, 3) := by decide +kernel
theorem dX7_judge_18 : decode cX7_judge 18 = .ok (.aload_n 0, 1) := by decide +kernel
theorem dX7_judge_19 : decode cX7_judge 19 = .ok (.getfield 7, 3) := by decide +kernel
theorem dX7_judge_22 : decode cX7_judge 22 = .ok (.bipush 40, 2) := by decide +kernel
theorem dX7_judge_24 : decode cX7_judge 24 = .ok (.iconst 3, 1) := by decide +kernel
theorem dX7_judge_25 : decode cX7_judge 25 = .ok (.iload_n 2, 1) := by decide +kernel
theorem dX7_judge_26 : decode cX7_judge 26 = .ok (.imul, 1) := by decide +kernel
theorem dX7_judge_27 : decode cX7_judge 27 = .ok (.iadd, 1) := by decide +kernel
theorem dX7_judge_28 : decode cX7_judge 28 = .ok (.iload_n 1, 1) := by decide +kernel
theorem dX7_judge_29 : decode cX7_judge 29 = .ok (.iadd, 1) := by decide +kernel
theorem dX7_judge_30 : decode cX7_judge 30 = .ok (.iaload, 1) := by decide +kernel
theorem dX7_judge_31 : decode cX7_judge 31 = .ok (.goto 4, 3) := by decide +kernel
theorem dX7_judge_34 : decode cX7_judge 34 = .ok (.iconst (-1), 1) := by decide +kernel
theorem dX7_judge_35 : decode cX7_judge 35 = .ok (.ireturn, 1) := by decide +kernel
set_option maxRecDepth 20000 in
theorem ggX7_draught_X7_in : GoodIn wsX7_draught wsX7_in := goodIn_r _ [5] (by decide +kernel) (by decide +kernel)
set_option maxRecDepth 20000 in
theorem gX7_draught_X7_in : GoodIn wsX7_draught (va_wsS RX7 52 yX7_in wsX7_in) := goodIn_app (goodIn_of _ (by decide +kernel)) ggX7_draught_X7_in
theorem dX7_draught_0 : decode cX7_draught 0 = .ok (.iload_n 1, 1) := by decide +kernel
theorem dX7_draught_1 : decode cX7_draught 1 = .ok (.i2l, 1) := by decide +kernel
theorem dX7_draught_2 : decode cX7_draught 2 = .ok (.lconst 0, 1) := by decide +kernel
theorem dX7_draught_3 : decode cX7_draught 3 = .ok (.aload_n 0, 1) := by decide +kernel
theorem dX7_draught_4 : decode cX7_draught 4 = .ok (.getfield 7, 3) := by decide +kernel
theorem dX7_draught_7 : decode cX7_draught 7 = .ok (.bipush 46, 2) := by decide +kernel
theorem dX7_draught_9 : decode cX7_draught 9 = .ok (.iaload, 1) := by decide +kernel
theorem dX7_draught_10 : decode cX7_draught 10 = .ok (.iconst 1, 1) := by decide +kernel
theorem dX7_draught_11 : decode cX7_draught 11 = .ok (.isub, 1) := by decide +kernel
theorem dX7_draught_12 : decode cX7_draught 12 = .ok (.i2l, 1) := by decide +kernel
theorem dX7_draught_13 : decode cX7_draught 13 = .ok (.invokestatic 52, 3) := by decide +kernel
theorem dX7_draught_16 : decode cX7_draught 16 = .ok (.ifCond .eq 29, 3) := by decide +kernel
theorem dX7_draught_19 : decode cX7_draught 19 = .ok (.iload_n 2, 1) := by decide +kernel
theorem dX7_draught_20 : decode cX7_draught 20 = .ok (.i2l, 1) := by decide +kernel
theorem dX7_draught_21 : decode cX7_draught 21 = .ok (.lconst 0, 1) := by decide +kernel
theorem dX7_draught_22 : decode cX7_draught 22 = .ok (.lconst 1, 1) := by decide +kernel
theorem dX7_draught_23 : decode cX7_draught 23 = .ok (.invokestatic 52, 3) := by decide +kernel
theorem dX7_draught_26 : decode cX7_draught 26 = .ok (.ifCond .eq 19, 3) := by decide +kernel
theorem dX7_draught_29 : decode cX7_draught 29 = .ok (.aload_n 0, 1) := by decide +kernel
theorem dX7_draught_30 : decode cX7_draught 30 = .ok (.getfield 7, 3) := by decide +kernel
theorem dX7_draught_33 : decode cX7_draught 33 = .ok (.bipush 47, 2) := by decide +kernel
theorem dX7_draught_35 : decode cX7_draught 35 = .ok (.iconst 4, 1) := by decide +kernel
theorem dX7_draught_36 : decode cX7_draught 36 = .ok (.iload_n 2, 1) := by decide +kernel
theorem dX7_draught_37 : decode cX7_draught 37 = .ok (.imul, 1) := by decide +kernel
theorem dX7_draught_38 : decode cX7_draught 38 = .ok (.iadd, 1) := by decide +kernel
theorem dX7_draught_39 : decode cX7_draught 39 = .ok (.iload_n 1, 1) := by decide +kernel
theorem dX7_draught_40 : decode cX7_draught 40 = .ok (.iadd, 1) := by decide +kernel
theorem dX7_draught_41 : decode cX7_draught 41 = .ok (.iaload, 1) := by decide +kernel
theorem dX7_draught_42 : decode cX7_draught 42 = .ok (.goto 4, 3) := by decide +kernel
theorem dX7_draught_45 : decode cX7_draught 45 = .ok (.iconst (-1), 1) := by decide +kernel
theorem dX7_draught_46 : decode cX7_draught 46 = .ok (.ireturn, 1) := by decide +kernel
set_option maxRecDepth 20000 in
theorem ggX7_docket_X7_in : GoodIn wsX7_docket wsX7_in := goodIn_r _ [5] (by decide +kernel) (by decide +kernel)
set_option maxRecDepth 20000 in
theorem gX7_docket_X7_in : GoodIn wsX7_docket (va_wsS RX7 52 yX7_in wsX7_in) := goodIn_app (goodIn_of _ (by decide +kernel)) ggX7_docket_X7_in
theorem dX7_docket_0 : decode cX7_docket 0 = .ok (.iload_n 1, 1) := by decide +kernel
theorem dX7_docket_1 : decode cX7_docket 1 = .ok (.i2l, 1) := by decide +kernel
theorem dX7_docket_2 : decode cX7_docket 2 = .ok (.lconst 0, 1) := by decide +kernel
theorem dX7_docket_3 : decode cX7_docket 3 = .ok (.aload_n 0, 1) := by decide +kernel
theorem dX7_docket_4 : decode cX7_docket 4 = .ok (.getfield 7, 3) := by decide +kernel
theorem dX7_docket_7 : decode cX7_docket 7 = .ok (.bipush 55, 2) := by decide +kernel
theorem dX7_docket_9 : decode cX7_docket 9 = .ok (.iaload, 1) := by decide +kernel
theorem dX7_docket_10 : decode cX7_docket 10 = .ok (.iconst 1, 1) := by decide +kernel
theorem dX7_docket_11 : decode cX7_docket 11 = .ok (.isub, 1) := by decide +kernel
theorem dX7_docket_12 : decode cX7_docket 12 = .ok (.i2l, 1) := by decide +kernel
theorem dX7_docket_13 : decode cX7_docket 13 = .ok (.invokestatic 52, 3) := by decide +kernel
theorem dX7_docket_16 : decode cX7_docket 16 = .ok (.ifCond .eq 30, 3) := by decide +kernel
theorem dX7_docket_19 : decode cX7_docket 19 = .ok (.iload_n 2, 1) := by decide +kernel
theorem dX7_docket_20 : decode cX7_docket 20 = .ok (.i2l, 1) := by decide +kernel
theorem dX7_docket_21 : decode cX7_docket 21 = .ok (.lconst 0, 1) := by decide +kernel
theorem dX7_docket_22 : decode cX7_docket 22 = .ok (.lconst 1, 1) := by decide +kernel
theorem dX7_docket_23 : decode cX7_docket 23 = .ok (.invokestatic 52, 3) := by decide +kernel
theorem dX7_docket_26 : decode cX7_docket 26 = .ok (.ifCond .eq 20, 3) := by decide +kernel
theorem dX7_docket_29 : decode cX7_docket 29 = .ok (.aload_n 0, 1) := by decide +kernel
theorem dX7_docket_30 : decode cX7_docket 30 = .ok (.getfield 7, 3) := by decide +kernel
theorem dX7_docket_33 : decode cX7_docket 33 = .ok (.bipush 56, 2) := by decide +kernel
theorem dX7_docket_35 : decode cX7_docket 35 = .ok (.bipush 6, 2) := by decide +kernel
theorem dX7_docket_37 : decode cX7_docket 37 = .ok (.iload_n 2, 1) := by decide +kernel
theorem dX7_docket_38 : decode cX7_docket 38 = .ok (.imul, 1) := by decide +kernel
theorem dX7_docket_39 : decode cX7_docket 39 = .ok (.iadd, 1) := by decide +kernel
theorem dX7_docket_40 : decode cX7_docket 40 = .ok (.iload_n 1, 1) := by decide +kernel
theorem dX7_docket_41 : decode cX7_docket 41 = .ok (.iadd, 1) := by decide +kernel
theorem dX7_docket_42 : decode cX7_docket 42 = .ok (.iaload, 1) := by decide +kernel
theorem dX7_docket_43 : decode cX7_docket 43 = .ok (.goto 4, 3) := by decide +kernel
theorem dX7_docket_46 : decode cX7_docket 46 = .ok (.iconst (-1), 1) := by decide +kernel
theorem dX7_docket_47 : decode cX7_docket 47 = .ok (.ireturn, 1) := by decide +kernel
theorem dX7_puts_0 : decode cX7_puts 0 = .ok (.iload_n 1, 1) := by decide +kernel
theorem dX7_puts_1 : decode cX7_puts 1 = .ok (.ifCond .ne 5, 3) := by decide +kernel
theorem dX7_puts_4 : decode cX7_puts 4 = .ok (.iconst (-1), 1) := by decide +kernel
theorem dX7_puts_5 : decode cX7_puts 5 = .ok (.ireturn, 1) := by decide +kernel
theorem dX7_puts_6 : decode cX7_puts 6 = .ok (.aload_n 0, 1) := by decide +kernel
theorem dX7_puts_7 : decode cX7_puts 7 = .ok (.getfield 7, 3) := by decide +kernel
theorem dX7_puts_10 : decode cX7_puts 10 = .ok (.iload_n 2, 1) := by decide +kernel
theorem dX7_puts_11 : decode cX7_puts 11 = .ok (.iaload, 1) := by decide +kernel
theorem dX7_puts_12 : decode cX7_puts 12 = .ok (.istore 4, 2) := by decide +kernel
theorem dX7_puts_14 : decode cX7_puts 14 = .ok (.aload_n 0, 1) := by decide +kernel
theorem dX7_puts_15 : decode cX7_puts 15 = .ok (.getfield 7, 3) := by decide +kernel
theorem dX7_puts_18 : decode cX7_puts 18 = .ok (.iload_n 2, 1) := by decide +kernel
theorem dX7_puts_19 : decode cX7_puts 19 = .ok (.iload_n 3, 1) := by decide +kernel
theorem dX7_puts_20 : decode cX7_puts 20 = .ok (.iastore, 1) := by decide +kernel
theorem dX7_puts_21 : decode cX7_puts 21 = .ok (.iload 4, 2) := by decide +kernel
theorem dX7_puts_23 : decode cX7_puts 23 = .ok (.ireturn, 1) := by decide +kernel
set_option maxRecDepth 20000 in
theorem ggX7_trim_X7_in : GoodIn wsX7_trim wsX7_in := goodIn_r _ [8] (by decide +kernel) (by decide +kernel)
set_option maxRecDepth 20000 in
theorem gX7_trim_X7_in : GoodIn wsX7_trim (va_wsS RX7 52 yX7_in wsX7_in) := goodIn_app (goodIn_of _ (by decide +kernel)) ggX7_trim_X7_in
set_option maxRecDepth 20000 in
theorem ggX7_trim_X7_isCase : GoodIn wsX7_trim wsX7_isCase := goodIn_r _ [12, 13, 5, 6, 7, 8, 21, 22, 23, 24, 25, 26, 27, 28, 29, 30, 31, 32, 33, 34, 35, 36, 37, 38, 39, 40, 41, 42, 43, 44, 45, 46, 47, 48, 49, 50, 51, 52, 53, 54, 55, 56] (by decide +kernel) (by decide +kernel)
set_option maxRecDepth 20000 in
theorem gX7_trim_X7_isCase : GoodIn wsX7_trim (wsV RX7 184 RX7 yX7_isCase wsX7_isCase) := goodIn_app (goodIn_of _ (by decide +kernel)) ggX7_trim_X7_isCase
set_option maxRecDepth 20000 in
theorem ggX7_trim_X7_isSide : GoodIn wsX7_trim wsX7_isSide := goodIn_r _ [16, 5, 6, 7, 8] (by decide +kernel) (by decide +kernel)
set_option maxRecDepth 20000 in
theorem gX7_trim_X7_isSide : GoodIn wsX7_trim (va_wsS RX7 188 yX7_isSide wsX7_isSide) := goodIn_app (goodIn_of _ (by decide +kernel)) ggX7_trim_X7_isSide
set_option maxRecDepth 20000 in
theorem ggX7_trim_X7_puts : GoodIn wsX7_trim wsX7_puts := goodIn_r _ [20, 4, 21, 22, 23, 24, 25, 26, 27, 28, 29, 30, 31, 32, 33, 34, 35, 36, 37, 38, 39, 40, 41, 42, 43, 44, 45, 46, 47, 48, 49, 50, 51, 52, 53, 54, 55, 56] (by decide +kernel) (by decide +kernel)
set_option maxRecDepth 20000 in
theorem gX7_trim_X7_puts : GoodIn wsX7_trim (wsV RX7 198 RX7 yX7_puts wsX7_puts) := goodIn_app (goodIn_of _ (by decide +kernel)) ggX7_trim_X7_puts
theorem dX7_trim_0 : decode cX7_trim 0 = .ok (.iload_n 3, 1) := by decide +kernel
theorem dX7_trim_1 : decode cX7_trim 1 = .ok (.ifCond .ne 16, 3) := by decide +kernel
theorem dX7_trim_4 : decode cX7_trim 4 = .ok (.iload 4, 2) := by decide +kernel
theorem dX7_trim_6 : decode cX7_trim 6 = .ok (.i2l, 1) := by decide +kernel
theorem dX7_trim_7 : decode cX7_trim 7 = .ok (.lconst 0, 1) := by decide +kernel
theorem dX7_trim_8 : decode cX7_trim 8 = .ok (.ldc2_w 101, 3) := by decide +kernel
theorem dX7_trim_11 : decode cX7_trim 11 = .ok (.invokestatic 52, 3) := by decide +kernel
theorem dX7_trim_14 : decode cX7_trim 14 = .ok (.goto 44, 3) := by decide +kernel
theorem dX7_trim_17 : decode cX7_trim 17 = .ok (.iload_n 3, 1) := by decide +kernel
theorem dX7_trim_18 : decode cX7_trim 18 = .ok (.iconst 1, 1) := by decide +kernel
theorem dX7_trim_19 : decode cX7_trim 19 = .ok (.if_icmp .ne 16, 3) := by decide +kernel
theorem dX7_trim_22 : decode cX7_trim 22 = .ok (.iload 4, 2) := by decide +kernel
theorem dX7_trim_24 : decode cX7_trim 24 = .ok (.i2l, 1) := by decide +kernel
theorem dX7_trim_25 : decode cX7_trim 25 = .ok (.lconst 0, 1) := by decide +kernel
theorem dX7_trim_26 : decode cX7_trim 26 = .ok (.ldc2_w 194, 3) := by decide +kernel
theorem dX7_trim_29 : decode cX7_trim 29 = .ok (.invokestatic 52, 3) := by decide +kernel
theorem dX7_trim_32 : decode cX7_trim 32 = .ok (.goto 26, 3) := by decide +kernel
theorem dX7_trim_35 : decode cX7_trim 35 = .ok (.iload_n 3, 1) := by decide +kernel
theorem dX7_trim_36 : decode cX7_trim 36 = .ok (.iconst 2, 1) := by decide +kernel
theorem dX7_trim_37 : decode cX7_trim 37 = .ok (.if_icmp .ne 20, 3) := by decide +kernel
theorem dX7_trim_40 : decode cX7_trim 40 = .ok (.iload 4, 2) := by decide +kernel
theorem dX7_trim_42 : decode cX7_trim 42 = .ok (.i2l, 1) := by decide +kernel
theorem dX7_trim_43 : decode cX7_trim 43 = .ok (.lconst 0, 1) := by decide +kernel
theorem dX7_trim_44 : decode cX7_trim 44 = .ok (.ldc2_w 196, 3) := by decide +kernel
theorem dX7_trim_47 : decode cX7_trim 47 = .ok (.invokestatic 52, 3) := by decide +kernel
theorem dX7_trim_50 : decode cX7_trim 50 = .ok (.ifCond .eq 7, 3) := by decide +kernel
theorem dX7_trim_53 : decode cX7_trim 53 = .ok (.iconst 1, 1) := by decide +kernel
theorem dX7_trim_54 : decode cX7_trim 54 = .ok (.goto 4, 3) := by decide +kernel
theorem dX7_trim_57 : decode cX7_trim 57 = .ok (.iconst 0, 1) := by decide +kernel
theorem dX7_trim_58 : decode cX7_trim 58 = .ok (.istore 5, 2) := by decide +kernel
theorem dX7_trim_60 : decode cX7_trim 60 = .ok (.aload_n 0, 1) := by decide +kernel
theorem dX7_trim_61 : decode cX7_trim 61 = .ok (.iload_n 1, 1) := by decide +kernel
theorem dX7_trim_62 : decode cX7_trim 62 = .ok (.invokevirtual 184, 3) := by decide +kernel
theorem dX7_trim_65 : decode cX7_trim 65 = .ok (.ifCond .eq 15, 3) := by decide +kernel
theorem dX7_trim_68 : decode cX7_trim 68 = .ok (.iload_n 2, 1) := by decide +kernel
theorem dX7_trim_69 : decode cX7_trim 69 = .ok (.invokestatic 188, 3) := by decide +kernel
theorem dX7_trim_72 : decode cX7_trim 72 = .ok (.ifCond .eq 8, 3) := by decide +kernel
theorem dX7_trim_75 : decode cX7_trim 75 = .ok (.iload 5, 2) := by decide +kernel
theorem dX7_trim_77 : decode cX7_trim 77 = .ok (.ifCond .ne 5, 3) := by decide +kernel
theorem dX7_trim_80 : decode cX7_trim 80 = .ok (.iconst (-1), 1) := by decide +kernel
theorem dX7_trim_81 : decode cX7_trim 81 = .ok (.ireturn, 1) := by decide +kernel
theorem dX7_trim_82 : decode cX7_trim 82 = .ok (.aload_n 0, 1) := by decide +kernel
theorem dX7_trim_83 : decode cX7_trim 83 = .ok (.getfield 7, 3) := by decide +kernel
theorem dX7_trim_86 : decode cX7_trim 86 = .ok (.bipush 24, 2) := by decide +kernel
theorem dX7_trim_88 : decode cX7_trim 88 = .ok (.iload_n 1, 1) := by decide +kernel
theorem dX7_trim_89 : decode cX7_trim 89 = .ok (.iadd, 1) := by decide +kernel
theorem dX7_trim_90 : decode cX7_trim 90 = .ok (.iaload, 1) := by decide +kernel
theorem dX7_trim_91 : decode cX7_trim 91 = .ok (.ifCond .eq 8, 3) := by decide +kernel
theorem dX7_trim_94 : decode cX7_trim 94 = .ok (.bipush (-2), 2) := by decide +kernel
theorem dX7_trim_96 : decode cX7_trim 96 = .ok (.goto 20, 3) := by decide +kernel
theorem dX7_trim_99 : decode cX7_trim 99 = .ok (.aload_n 0, 1) := by decide +kernel
theorem dX7_trim_100 : decode cX7_trim 100 = .ok (.iconst 1, 1) := by decide +kernel
theorem dX7_trim_101 : decode cX7_trim 101 = .ok (.bipush 8, 2) := by decide +kernel
theorem dX7_trim_103 : decode cX7_trim 103 = .ok (.iload_n 3, 1) := by decide +kernel
theorem dX7_trim_104 : decode cX7_trim 104 = .ok (.imul, 1) := by decide +kernel
theorem dX7_trim_105 : decode cX7_trim 105 = .ok (.iconst 2, 1) := by decide +kernel
theorem dX7_trim_106 : decode cX7_trim 106 = .ok (.iload_n 1, 1) := by decide +kernel
theorem dX7_trim_107 : decode cX7_trim 107 = .ok (.imul, 1) := by decide +kernel
theorem dX7_trim_108 : decode cX7_trim 108 = .ok (.iadd, 1) := by decide +kernel
theorem dX7_trim_109 : decode cX7_trim 109 = .ok (.iload_n 2, 1) := by decide +kernel
theorem dX7_trim_110 : decode cX7_trim 110 = .ok (.iadd, 1) := by decide +kernel
theorem dX7_trim_111 : decode cX7_trim 111 = .ok (.iload 4, 2) := by decide +kernel
theorem dX7_trim_113 : decode cX7_trim 113 = .ok (.invokevirtual 198, 3) := by decide +kernel
theorem dX7_trim_116 : decode cX7_trim 116 = .ok (.ireturn, 1) := by decide +kernel
set_option maxRecDepth 20000 in
theorem ggX7_train_X7_isJudge : GoodIn wsX7_train wsX7_isJudge := goodIn_r _ [7, 8, 9, 10, 6, 11, 17, 18, 19, 20, 21, 22, 23, 24, 25, 26, 27, 28, 29, 30, 31, 32, 33, 34, 35, 36, 37, 38, 39, 40, 41, 42, 43, 44, 45, 46, 47, 48, 49, 50, 51, 52] (by decide +kernel) (by decide +kernel)
set_option maxRecDepth 20000 in
theorem gX7_train_X7_isJudge : GoodIn wsX7_train (wsV RX7 191 RX7 yX7_isJudge wsX7_isJudge) := goodIn_app (goodIn_of _ (by decide +kernel)) ggX7_train_X7_isJudge
set_option maxRecDepth 20000 in
theorem ggX7_train_X7_in : GoodIn wsX7_train wsX7_in := goodIn_r _ [11] (by decide +kernel) (by decide +kernel)
set_option maxRecDepth 20000 in
theorem gX7_train_X7_in : GoodIn wsX7_train (va_wsS RX7 52 yX7_in wsX7_in) := goodIn_app (goodIn_of _ (by decide +kernel)) ggX7_train_X7_in
set_option maxRecDepth 20000 in
theorem ggX7_train_X7_puts : GoodIn wsX7_train wsX7_puts := goodIn_r _ [15, 16, 17, 18, 19, 20, 21, 22, 23, 24, 25, 26, 27, 28, 29, 30, 31, 32, 33, 34, 35, 36, 37, 38, 39, 40, 41, 42, 43, 44, 45, 46, 47, 48, 49, 50, 51, 52] (by decide +kernel) (by decide +kernel)
set_option maxRecDepth 20000 in
theorem gX7_train_X7_puts : GoodIn wsX7_train (wsV RX7 198 RX7 yX7_puts wsX7_puts) := goodIn_app (goodIn_of _ (by decide +kernel)) ggX7_train_X7_puts
theorem dX7_train_0 : decode cX7_train 0 = .ok (.aload_n 0, 1) := by decide +kernel
theorem dX7_train_1 : decode cX7_train 1 = .ok (.aload_n 0, 1) := by decide +kernel
theorem dX7_train_2 : decode cX7_train 2 = .ok (.iload_n 1, 1) := by decide +kernel
theorem dX7_train_3 : decode cX7_train 3 = .ok (.invokevirtual 191, 3) := by decide +kernel
theorem dX7_train_6 : decode cX7_train 6 = .ok (.ifCond .eq 40, 3) := by decide +kernel
theorem dX7_train_9 : decode cX7_train 9 = .ok (.iload_n 2, 1) := by decide +kernel
theorem dX7_train_10 : decode cX7_train 10 = .ok (.ifCond .ne 15, 3) := by decide +kernel
theorem dX7_train_13 : decode cX7_train 13 = .ok (.iload_n 3, 1) := by decide +kernel
theorem dX7_train_14 : decode cX7_train 14 = .ok (.i2l, 1) := by decide +kernel
theorem dX7_train_15 : decode cX7_train 15 = .ok (.lconst 0, 1) := by decide +kernel
theorem dX7_train_16 : decode cX7_train 16 = .ok (.ldc2_w 101, 3) := by decide +kernel
theorem dX7_train_19 : decode cX7_train 19 = .ok (.invokestatic 52, 3) := by decide +kernel
theorem dX7_train_22 : decode cX7_train 22 = .ok (.ifCond .ne 20, 3) := by decide +kernel
theorem dX7_train_25 : decode cX7_train 25 = .ok (.iload_n 2, 1) := by decide +kernel
theorem dX7_train_26 : decode cX7_train 26 = .ok (.iconst 1, 1) := by decide +kernel
theorem dX7_train_27 : decode cX7_train 27 = .ok (.if_icmp .ne 19, 3) := by decide +kernel
theorem dX7_train_30 : decode cX7_train 30 = .ok (.iload_n 3, 1) := by decide +kernel
theorem dX7_train_31 : decode cX7_train 31 = .ok (.i2l, 1) := by decide +kernel
theorem dX7_train_32 : decode cX7_train 32 = .ok (.lconst 1, 1) := by decide +kernel
theorem dX7_train_33 : decode cX7_train 33 = .ok (.ldc2_w 196, 3) := by decide +kernel
theorem dX7_train_36 : decode cX7_train 36 = .ok (.invokestatic 52, 3) := by decide +kernel
theorem dX7_train_39 : decode cX7_train 39 = .ok (.ifCond .eq 7, 3) := by decide +kernel
theorem dX7_train_42 : decode cX7_train 42 = .ok (.iconst 1, 1) := by decide +kernel
theorem dX7_train_43 : decode cX7_train 43 = .ok (.goto 4, 3) := by decide +kernel
theorem dX7_train_46 : decode cX7_train 46 = .ok (.iconst 0, 1) := by decide +kernel
theorem dX7_train_47 : decode cX7_train 47 = .ok (.bipush 40, 2) := by decide +kernel
theorem dX7_train_49 : decode cX7_train 49 = .ok (.iconst 3, 1) := by decide +kernel
theorem dX7_train_50 : decode cX7_train 50 = .ok (.iload_n 2, 1) := by decide +kernel
theorem dX7_train_51 : decode cX7_train 51 = .ok (.imul, 1) := by decide +kernel
theorem dX7_train_52 : decode cX7_train 52 = .ok (.iadd, 1) := by decide +kernel
theorem dX7_train_53 : decode cX7_train 53 = .ok (.iload_n 1, 1) := by decide +kernel
theorem dX7_train_54 : decode cX7_train 54 = .ok (.iadd, 1) := by decide +kernel
theorem dX7_train_55 : decode cX7_train 55 = .ok (.iload_n 3, 1) := by decide +kernel
theorem dX7_train_56 : decode cX7_train 56 = .ok (.invokevirtual 198, 3) := by decide +kernel
theorem dX7_train_59 : decode cX7_train 59 = .ok (.ireturn, 1) := by decide +kernel
set_option maxRecDepth 20000 in
theorem ggX7_blow_X7_in : GoodIn wsX7_blow wsX7_in := goodIn_r _ [7] (by decide +kernel) (by decide +kernel)
set_option maxRecDepth 20000 in
theorem gX7_blow_X7_in : GoodIn wsX7_blow (va_wsS RX7 52 yX7_in wsX7_in) := goodIn_app (goodIn_of _ (by decide +kernel)) ggX7_blow_X7_in
theorem dX7_blow_0 : decode cX7_blow 0 = .ok (.iload_n 1, 1) := by decide +kernel
theorem dX7_blow_1 : decode cX7_blow 1 = .ok (.i2l, 1) := by decide +kernel
theorem dX7_blow_2 : decode cX7_blow 2 = .ok (.lconst 0, 1) := by decide +kernel
theorem dX7_blow_3 : decode cX7_blow 3 = .ok (.ldc2_w 202, 3) := by decide +kernel
theorem dX7_blow_6 : decode cX7_blow 6 = .ok (.invokestatic 52, 3) := by decide +kernel
theorem dX7_blow_9 : decode cX7_blow 9 = .ok (.ifCond .eq 15, 3) := by decide +kernel
theorem dX7_blow_12 : decode cX7_blow 12 = .ok (.iload_n 2, 1) := by decide +kernel
theorem dX7_blow_13 : decode cX7_blow 13 = .ok (.i2l, 1) := by decide +kernel
theorem dX7_blow_14 : decode cX7_blow 14 = .ok (.lconst 1, 1) := by decide +kernel
theorem dX7_blow_15 : decode cX7_blow 15 = .ok (.ldc2_w 196, 3) := by decide +kernel
theorem dX7_blow_18 : decode cX7_blow 18 = .ok (.invokestatic 52, 3) := by decide +kernel
theorem dX7_blow_21 : decode cX7_blow 21 = .ok (.ifCond .ne 5, 3) := by decide +kernel
theorem dX7_blow_24 : decode cX7_blow 24 = .ok (.iconst (-1), 1) := by decide +kernel
theorem dX7_blow_25 : decode cX7_blow 25 = .ok (.ireturn, 1) := by decide +kernel
theorem dX7_blow_26 : decode cX7_blow 26 = .ok (.aload_n 0, 1) := by decide +kernel
theorem dX7_blow_27 : decode cX7_blow 27 = .ok (.getfield 7, 3) := by decide +kernel
theorem dX7_blow_30 : decode cX7_blow 30 = .ok (.bipush 46, 2) := by decide +kernel
theorem dX7_blow_32 : decode cX7_blow 32 = .ok (.iaload, 1) := by decide +kernel
theorem dX7_blow_33 : decode cX7_blow 33 = .ok (.iconst 4, 1) := by decide +kernel
theorem dX7_blow_34 : decode cX7_blow 34 = .ok (.if_icmp .ne 6, 3) := by decide +kernel
theorem dX7_blow_37 : decode cX7_blow 37 = .ok (.bipush (-3), 2) := by decide +kernel
theorem dX7_blow_39 : decode cX7_blow 39 = .ok (.ireturn, 1) := by decide +kernel
theorem dX7_blow_40 : decode cX7_blow 40 = .ok (.aload_n 0, 1) := by decide +kernel
theorem dX7_blow_41 : decode cX7_blow 41 = .ok (.getfield 7, 3) := by decide +kernel
theorem dX7_blow_44 : decode cX7_blow 44 = .ok (.bipush 47, 2) := by decide +kernel
theorem dX7_blow_46 : decode cX7_blow 46 = .ok (.aload_n 0, 1) := by decide +kernel
theorem dX7_blow_47 : decode cX7_blow 47 = .ok (.getfield 7, 3) := by decide +kernel
theorem dX7_blow_50 : decode cX7_blow 50 = .ok (.bipush 46, 2) := by decide +kernel
theorem dX7_blow_52 : decode cX7_blow 52 = .ok (.iaload, 1) := by decide +kernel
theorem dX7_blow_53 : decode cX7_blow 53 = .ok (.iadd, 1) := by decide +kernel
theorem dX7_blow_54 : decode cX7_blow 54 = .ok (.iload_n 1, 1) := by decide +kernel
theorem dX7_blow_55 : decode cX7_blow 55 = .ok (.iastore, 1) := by decide +kernel
theorem dX7_blow_56 : decode cX7_blow 56 = .ok (.aload_n 0, 1) := by decide +kernel
theorem dX7_blow_57 : decode cX7_blow 57 = .ok (.getfield 7, 3) := by decide +kernel
theorem dX7_blow_60 : decode cX7_blow 60 = .ok (.bipush 51, 2) := by decide +kernel
theorem dX7_blow_62 : decode cX7_blow 62 = .ok (.aload_n 0, 1) := by decide +kernel
theorem dX7_blow_63 : decode cX7_blow 63 = .ok (.getfield 7, 3) := by decide +kernel
theorem dX7_blow_66 : decode cX7_blow 66 = .ok (.bipush 46, 2) := by decide +kernel
theorem dX7_blow_68 : decode cX7_blow 68 = .ok (.iaload, 1) := by decide +kernel
theorem dX7_blow_69 : decode cX7_blow 69 = .ok (.iadd, 1) := by decide +kernel
theorem dX7_blow_70 : decode cX7_blow 70 = .ok (.iload_n 2, 1) := by decide +kernel
theorem dX7_blow_71 : decode cX7_blow 71 = .ok (.iastore, 1) := by decide +kernel
theorem dX7_blow_72 : decode cX7_blow 72 = .ok (.aload_n 0, 1) := by decide +kernel
theorem dX7_blow_73 : decode cX7_blow 73 = .ok (.getfield 7, 3) := by decide +kernel
theorem dX7_blow_76 : decode cX7_blow 76 = .ok (.bipush 46, 2) := by decide +kernel
theorem dX7_blow_78 : decode cX7_blow 78 = .ok (.dup2, 1) := by decide +kernel
theorem dX7_blow_79 : decode cX7_blow 79 = .ok (.iaload, 1) := by decide +kernel
theorem dX7_blow_80 : decode cX7_blow 80 = .ok (.iconst 1, 1) := by decide +kernel
theorem dX7_blow_81 : decode cX7_blow 81 = .ok (.iadd, 1) := by decide +kernel
theorem dX7_blow_82 : decode cX7_blow 82 = .ok (.iastore, 1) := by decide +kernel
theorem dX7_blow_83 : decode cX7_blow 83 = .ok (.aload_n 0, 1) := by decide +kernel
theorem dX7_blow_84 : decode cX7_blow 84 = .ok (.getfield 7, 3) := by decide +kernel
theorem dX7_blow_87 : decode cX7_blow 87 = .ok (.bipush 46, 2) := by decide +kernel
theorem dX7_blow_89 : decode cX7_blow 89 = .ok (.iaload, 1) := by decide +kernel
theorem dX7_blow_90 : decode cX7_blow 90 = .ok (.ireturn, 1) := by decide +kernel
set_option maxRecDepth 20000 in
theorem ggX7_calm_X7_in : GoodIn wsX7_calm wsX7_in := goodIn_r _ [5] (by decide +kernel) (by decide +kernel)
set_option maxRecDepth 20000 in
theorem gX7_calm_X7_in : GoodIn wsX7_calm (va_wsS RX7 52 yX7_in wsX7_in) := goodIn_app (goodIn_of _ (by decide +kernel)) ggX7_calm_X7_in
set_option maxRecDepth 20000 in
theorem ggX7_calm_X7_puts : GoodIn wsX7_calm wsX7_puts := goodIn_r _ [9, 1, 10, 11, 12, 13, 14, 15, 16, 17, 18, 19, 20, 21, 22, 23, 24, 25, 26, 27, 28, 29, 30, 31, 32, 33, 34, 35, 36, 37, 38, 39, 40, 41, 42, 43, 44, 45] (by decide +kernel) (by decide +kernel)
set_option maxRecDepth 20000 in
theorem gX7_calm_X7_puts : GoodIn wsX7_calm (wsV RX7 198 RX7 yX7_puts wsX7_puts) := goodIn_app (goodIn_of _ (by decide +kernel)) ggX7_calm_X7_puts
theorem dX7_calm_0 : decode cX7_calm 0 = .ok (.aload_n 0, 1) := by decide +kernel
theorem dX7_calm_1 : decode cX7_calm 1 = .ok (.iload_n 1, 1) := by decide +kernel
theorem dX7_calm_2 : decode cX7_calm 2 = .ok (.i2l, 1) := by decide +kernel
theorem dX7_calm_3 : decode cX7_calm 3 = .ok (.lconst 0, 1) := by decide +kernel
theorem dX7_calm_4 : decode cX7_calm 4 = .ok (.aload_n 0, 1) := by decide +kernel
theorem dX7_calm_5 : decode cX7_calm 5 = .ok (.getfield 7, 3) := by decide +kernel
theorem dX7_calm_8 : decode cX7_calm 8 = .ok (.bipush 46, 2) := by decide +kernel
theorem dX7_calm_10 : decode cX7_calm 10 = .ok (.iaload, 1) := by decide +kernel
theorem dX7_calm_11 : decode cX7_calm 11 = .ok (.i2l, 1) := by decide +kernel
theorem dX7_calm_12 : decode cX7_calm 12 = .ok (.invokestatic 52, 3) := by decide +kernel
theorem dX7_calm_15 : decode cX7_calm 15 = .ok (.bipush 46, 2) := by decide +kernel
theorem dX7_calm_17 : decode cX7_calm 17 = .ok (.iload_n 1, 1) := by decide +kernel
theorem dX7_calm_18 : decode cX7_calm 18 = .ok (.invokevirtual 198, 3) := by decide +kernel
theorem dX7_calm_21 : decode cX7_calm 21 = .ok (.ireturn, 1) := by decide +kernel
set_option maxRecDepth 20000 in
theorem ggX7_plan_X7_isCase : GoodIn wsX7_plan wsX7_isCase := goodIn_r _ [6, 7, 8, 9, 5, 10, 16, 17, 18, 19, 20, 21, 22, 23, 24, 25, 26, 27, 28, 29, 30, 31, 32, 33, 34, 35, 36, 37, 38, 39, 40, 41, 42, 43, 44, 45, 46, 47, 48, 49, 50, 51] (by decide +kernel) (by decide +kernel)
set_option maxRecDepth 20000 in
theorem gX7_plan_X7_isCase : GoodIn wsX7_plan (wsV RX7 184 RX7 yX7_isCase wsX7_isCase) := goodIn_app (goodIn_of _ (by decide +kernel)) ggX7_plan_X7_isCase
set_option maxRecDepth 20000 in
theorem ggX7_plan_X7_isJudge : GoodIn wsX7_plan wsX7_isJudge := goodIn_r _ [14, 15, 8, 9, 5, 10, 16, 17, 18, 19, 20, 21, 22, 23, 24, 25, 26, 27, 28, 29, 30, 31, 32, 33, 34, 35, 36, 37, 38, 39, 40, 41, 42, 43, 44, 45, 46, 47, 48, 49, 50, 51] (by decide +kernel) (by decide +kernel)
set_option maxRecDepth 20000 in
theorem gX7_plan_X7_isJudge : GoodIn wsX7_plan (wsV RX7 191 RX7 yX7_isJudge wsX7_isJudge) := goodIn_app (goodIn_of _ (by decide +kernel)) ggX7_plan_X7_isJudge
theorem dX7_plan_0 : decode cX7_plan 0 = .ok (.aload_n 0, 1) := by decide +kernel
theorem dX7_plan_1 : decode cX7_plan 1 = .ok (.iload_n 1, 1) := by decide +kernel
theorem dX7_plan_2 : decode cX7_plan 2 = .ok (.invokevirtual 184, 3) := by decide +kernel
theorem dX7_plan_5 : decode cX7_plan 5 = .ok (.ifCond .eq 11, 3) := by decide +kernel
theorem dX7_plan_8 : decode cX7_plan 8 = .ok (.aload_n 0, 1) := by decide +kernel
theorem dX7_plan_9 : decode cX7_plan 9 = .ok (.iload_n 2, 1) := by decide +kernel
theorem dX7_plan_10 : decode cX7_plan 10 = .ok (.invokevirtual 191, 3) := by decide +kernel
theorem dX7_plan_13 : decode cX7_plan 13 = .ok (.ifCond .ne 5, 3) := by decide +kernel
theorem dX7_plan_16 : decode cX7_plan 16 = .ok (.iconst (-1), 1) := by decide +kernel
theorem dX7_plan_17 : decode cX7_plan 17 = .ok (.ireturn, 1) := by decide +kernel
theorem dX7_plan_18 : decode cX7_plan 18 = .ok (.aload_n 0, 1) := by decide +kernel
theorem dX7_plan_19 : decode cX7_plan 19 = .ok (.getfield 7, 3) := by decide +kernel
theorem dX7_plan_22 : decode cX7_plan 22 = .ok (.bipush 55, 2) := by decide +kernel
theorem dX7_plan_24 : decode cX7_plan 24 = .ok (.iaload, 1) := by decide +kernel
theorem dX7_plan_25 : decode cX7_plan 25 = .ok (.bipush 6, 2) := by decide +kernel
theorem dX7_plan_27 : decode cX7_plan 27 = .ok (.if_icmp .ne 6, 3) := by decide +kernel
theorem dX7_plan_30 : decode cX7_plan 30 = .ok (.bipush (-3), 2) := by decide +kernel
theorem dX7_plan_32 : decode cX7_plan 32 = .ok (.ireturn, 1) := by decide +kernel
theorem dX7_plan_33 : decode cX7_plan 33 = .ok (.aload_n 0, 1) := by decide +kernel
theorem dX7_plan_34 : decode cX7_plan 34 = .ok (.getfield 7, 3) := by decide +kernel
theorem dX7_plan_37 : decode cX7_plan 37 = .ok (.bipush 56, 2) := by decide +kernel
theorem dX7_plan_39 : decode cX7_plan 39 = .ok (.aload_n 0, 1) := by decide +kernel
theorem dX7_plan_40 : decode cX7_plan 40 = .ok (.getfield 7, 3) := by decide +kernel
theorem dX7_plan_43 : decode cX7_plan 43 = .ok (.bipush 55, 2) := by decide +kernel
theorem dX7_plan_45 : decode cX7_plan 45 = .ok (.iaload, 1) := by decide +kernel
theorem dX7_plan_46 : decode cX7_plan 46 = .ok (.iadd, 1) := by decide +kernel
theorem dX7_plan_47 : decode cX7_plan 47 = .ok (.iload_n 1, 1) := by decide +kernel
theorem dX7_plan_48 : decode cX7_plan 48 = .ok (.iastore, 1) := by decide +kernel
theorem dX7_plan_49 : decode cX7_plan 49 = .ok (.aload_n 0, 1) := by decide +kernel
theorem dX7_plan_50 : decode cX7_plan 50 = .ok (.getfield 7, 3) := by decide +kernel
theorem dX7_plan_53 : decode cX7_plan 53 = .ok (.bipush 62, 2) := by decide +kernel
theorem dX7_plan_55 : decode cX7_plan 55 = .ok (.aload_n 0, 1) := by decide +kernel
theorem dX7_plan_56 : decode cX7_plan 56 = .ok (.getfield 7, 3) := by decide +kernel
theorem dX7_plan_59 : decode cX7_plan 59 = .ok (.bipush 55, 2) := by decide +kernel
theorem dX7_plan_61 : decode cX7_plan 61 = .ok (.iaload, 1) := by decide +kernel
theorem dX7_plan_62 : decode cX7_plan 62 = .ok (.iadd, 1) := by decide +kernel
theorem dX7_plan_63 : decode cX7_plan 63 = .ok (.iload_n 2, 1) := by decide +kernel
theorem dX7_plan_64 : decode cX7_plan 64 = .ok (.iastore, 1) := by decide +kernel
theorem dX7_plan_65 : decode cX7_plan 65 = .ok (.aload_n 0, 1) := by decide +kernel
theorem dX7_plan_66 : decode cX7_plan 66 = .ok (.getfield 7, 3) := by decide +kernel
theorem dX7_plan_69 : decode cX7_plan 69 = .ok (.bipush 55, 2) := by decide +kernel
theorem dX7_plan_71 : decode cX7_plan 71 = .ok (.dup2, 1) := by decide +kernel
theorem dX7_plan_72 : decode cX7_plan 72 = .ok (.iaload, 1) := by decide +kernel
theorem dX7_plan_73 : decode cX7_plan 73 = .ok (.iconst 1, 1) := by decide +kernel
theorem dX7_plan_74 : decode cX7_plan 74 = .ok (.iadd, 1) := by decide +kernel
theorem dX7_plan_75 : decode cX7_plan 75 = .ok (.iastore, 1) := by decide +kernel
theorem dX7_plan_76 : decode cX7_plan 76 = .ok (.aload_n 0, 1) := by decide +kernel
theorem dX7_plan_77 : decode cX7_plan 77 = .ok (.getfield 7, 3) := by decide +kernel
theorem dX7_plan_80 : decode cX7_plan 80 = .ok (.bipush 55, 2) := by decide +kernel
theorem dX7_plan_82 : decode cX7_plan 82 = .ok (.iaload, 1) := by decide +kernel
theorem dX7_plan_83 : decode cX7_plan 83 = .ok (.ireturn, 1) := by decide +kernel
set_option maxRecDepth 20000 in
theorem ggX7_cut_X7_in : GoodIn wsX7_cut wsX7_in := goodIn_r _ [5] (by decide +kernel) (by decide +kernel)
set_option maxRecDepth 20000 in
theorem gX7_cut_X7_in : GoodIn wsX7_cut (va_wsS RX7 52 yX7_in wsX7_in) := goodIn_app (goodIn_of _ (by decide +kernel)) ggX7_cut_X7_in
set_option maxRecDepth 20000 in
theorem ggX7_cut_X7_puts : GoodIn wsX7_cut wsX7_puts := goodIn_r _ [9, 1, 10, 11, 12, 13, 14, 15, 16, 17, 18, 19, 20, 21, 22, 23, 24, 25, 26, 27, 28, 29, 30, 31, 32, 33, 34, 35, 36, 37, 38, 39, 40, 41, 42, 43, 44, 45] (by decide +kernel) (by decide +kernel)
set_option maxRecDepth 20000 in
theorem gX7_cut_X7_puts : GoodIn wsX7_cut (wsV RX7 198 RX7 yX7_puts wsX7_puts) := goodIn_app (goodIn_of _ (by decide +kernel)) ggX7_cut_X7_puts
theorem dX7_cut_0 : decode cX7_cut 0 = .ok (.aload_n 0, 1) := by decide +kernel
theorem dX7_cut_1 : decode cX7_cut 1 = .ok (.iload_n 1, 1) := by decide +kernel
theorem dX7_cut_2 : decode cX7_cut 2 = .ok (.i2l, 1) := by decide +kernel
theorem dX7_cut_3 : decode cX7_cut 3 = .ok (.lconst 0, 1) := by decide +kernel
theorem dX7_cut_4 : decode cX7_cut 4 = .ok (.aload_n 0, 1) := by decide +kernel
theorem dX7_cut_5 : decode cX7_cut 5 = .ok (.getfield 7, 3) := by decide +kernel
theorem dX7_cut_8 : decode cX7_cut 8 = .ok (.bipush 55, 2) := by decide +kernel
theorem dX7_cut_10 : decode cX7_cut 10 = .ok (.iaload, 1) := by decide +kernel
theorem dX7_cut_11 : decode cX7_cut 11 = .ok (.i2l, 1) := by decide +kernel
theorem dX7_cut_12 : decode cX7_cut 12 = .ok (.invokestatic 52, 3) := by decide +kernel
theorem dX7_cut_15 : decode cX7_cut 15 = .ok (.bipush 55, 2) := by decide +kernel
theorem dX7_cut_17 : decode cX7_cut 17 = .ok (.iload_n 1, 1) := by decide +kernel
theorem dX7_cut_18 : decode cX7_cut 18 = .ok (.invokevirtual 198, 3) := by decide +kernel
theorem dX7_cut_21 : decode cX7_cut 21 = .ok (.ireturn, 1) := by decide +kernel
set_option maxRecDepth 20000 in
theorem ggX7_isHeard_X7_isCase : GoodIn wsX7_isHeard wsX7_isCase := goodIn_r _ [5, 6, 7, 8, 4, 9, 15, 16, 17, 18, 19, 20, 21, 22, 23, 24, 25, 26, 27, 28, 29, 30, 31, 32, 33, 34, 35, 36, 37, 38, 39, 40, 41, 42, 43, 44, 45, 46, 47, 48, 49, 50] (by decide +kernel) (by decide +kernel)
set_option maxRecDepth 20000 in
theorem gX7_isHeard_X7_isCase : GoodIn wsX7_isHeard (wsV RX7 184 RX7 yX7_isCase wsX7_isCase) := goodIn_app (goodIn_of _ (by decide +kernel)) ggX7_isHeard_X7_isCase
set_option maxRecDepth 20000 in
theorem ggX7_isHeard_X7_isJudge : GoodIn wsX7_isHeard wsX7_isJudge := goodIn_r _ [13, 14, 7, 8, 4, 9, 15, 16, 17, 18, 19, 20, 21, 22, 23, 24, 25, 26, 27, 28, 29, 30, 31, 32, 33, 34, 35, 36, 37, 38, 39, 40, 41, 42, 43, 44, 45, 46, 47, 48, 49, 50] (by decide +kernel) (by decide +kernel)
set_option maxRecDepth 20000 in
theorem gX7_isHeard_X7_isJudge : GoodIn wsX7_isHeard (wsV RX7 191 RX7 yX7_isJudge wsX7_isJudge) := goodIn_app (goodIn_of _ (by decide +kernel)) ggX7_isHeard_X7_isJudge
theorem dX7_isHeard_0 : decode cX7_isHeard 0 = .ok (.aload_n 0, 1) := by decide +kernel
theorem dX7_isHeard_1 : decode cX7_isHeard 1 = .ok (.iload_n 1, 1) := by decide +kernel
theorem dX7_isHeard_2 : decode cX7_isHeard 2 = .ok (.invokevirtual 184, 3) := by decide +kernel
theorem dX7_isHeard_5 : decode cX7_isHeard 5 = .ok (.ifCond .eq 15, 3) := by decide +kernel
theorem dX7_isHeard_8 : decode cX7_isHeard 8 = .ok (.aload_n 0, 1) := by decide +kernel
theorem dX7_isHeard_9 : decode cX7_isHeard 9 = .ok (.iload_n 2, 1) := by decide +kernel
theorem dX7_isHeard_10 : decode cX7_isHeard 10 = .ok (.invokevirtual 191, 3) := by decide +kernel
theorem dX7_isHeard_13 : decode cX7_isHeard 13 = .ok (.ifCond .eq 7, 3) := by decide +kernel
theorem dX7_isHeard_16 : decode cX7_isHeard 16 = .ok (.iconst 1, 1) := by decide +kernel
theorem dX7_isHeard_17 : decode cX7_isHeard 17 = .ok (.goto 4, 3) := by decide +kernel
theorem dX7_isHeard_20 : decode cX7_isHeard 20 = .ok (.iconst 0, 1) := by decide +kernel
theorem dX7_isHeard_21 : decode cX7_isHeard 21 = .ok (.ireturn, 1) := by decide +kernel
set_option maxRecDepth 20000 in
theorem ggX7_judgesOn_X7_hearsOn : GoodIn wsX7_judgesOn wsX7_hearsOn := goodIn_r _ [7, 1, 2, 8, 9, 10, 6, 11, 12, 13, 14, 15, 16, 17, 18, 19, 20, 21, 22, 23, 24, 25, 26, 27, 28, 29, 30, 31, 32, 33, 34, 35, 36, 37, 38, 39, 40, 41, 42, 43, 44, 45, 46, 47, 48, 49, 50, 51, 52, 53, 54, 55, 56, 57, 58, 59, 60, 61, 62, 63] (by decide +kernel) (by decide +kernel)
set_option maxRecDepth 20000 in
theorem gX7_judgesOn_X7_hearsOn : GoodIn wsX7_judgesOn (wsV RX7 204 RX7 yX7_hearsOn wsX7_hearsOn) := goodIn_app (goodIn_of _ (by decide +kernel)) ggX7_judgesOn_X7_hearsOn
theorem dX7_judgesOn_0 : decode cX7_judgesOn 0 = .ok (.aload_n 0, 1) := by decide +kernel
theorem dX7_judgesOn_1 : decode cX7_judgesOn 1 = .ok (.iload_n 1, 1) := by decide +kernel
theorem dX7_judgesOn_2 : decode cX7_judgesOn 2 = .ok (.iload_n 2, 1) := by decide +kernel
theorem dX7_judgesOn_3 : decode cX7_judgesOn 3 = .ok (.iload_n 3, 1) := by decide +kernel
theorem dX7_judgesOn_4 : decode cX7_judgesOn 4 = .ok (.invokevirtual 204, 3) := by decide +kernel
theorem dX7_judgesOn_7 : decode cX7_judgesOn 7 = .ok (.istore 4, 2) := by decide +kernel
theorem dX7_judgesOn_9 : decode cX7_judgesOn 9 = .ok (.aload_n 0, 1) := by decide +kernel
theorem dX7_judgesOn_10 : decode cX7_judgesOn 10 = .ok (.getfield 7, 3) := by decide +kernel
theorem dX7_judgesOn_13 : decode cX7_judgesOn 13 = .ok (.iload_n 1, 1) := by decide +kernel
theorem dX7_judgesOn_14 : decode cX7_judgesOn 14 = .ok (.bipush 24, 2) := by decide +kernel
theorem dX7_judgesOn_16 : decode cX7_judgesOn 16 = .ok (.iadd, 1) := by decide +kernel
theorem dX7_judgesOn_17 : decode cX7_judgesOn 17 = .ok (.iload_n 2, 1) := by decide +kernel
theorem dX7_judgesOn_18 : decode cX7_judgesOn 18 = .ok (.iadd, 1) := by decide +kernel
theorem dX7_judgesOn_19 : decode cX7_judgesOn 19 = .ok (.iload 4, 2) := by decide +kernel
theorem dX7_judgesOn_21 : decode cX7_judgesOn 21 = .ok (.iastore, 1) := by decide +kernel
theorem dX7_judgesOn_22 : decode cX7_judgesOn 22 = .ok (.aload_n 0, 1) := by decide +kernel
theorem dX7_judgesOn_23 : decode cX7_judgesOn 23 = .ok (.getfield 7, 3) := by decide +kernel
theorem dX7_judgesOn_26 : decode cX7_judgesOn 26 = .ok (.iload_n 1, 1) := by decide +kernel
theorem dX7_judgesOn_27 : decode cX7_judgesOn 27 = .ok (.bipush 32, 2) := by decide +kernel
theorem dX7_judgesOn_29 : decode cX7_judgesOn 29 = .ok (.iadd, 1) := by decide +kernel
theorem dX7_judgesOn_30 : decode cX7_judgesOn 30 = .ok (.iload_n 2, 1) := by decide +kernel
theorem dX7_judgesOn_31 : decode cX7_judgesOn 31 = .ok (.iadd, 1) := by decide +kernel
theorem dX7_judgesOn_32 : decode cX7_judgesOn 32 = .ok (.aload_n 0, 1) := by decide +kernel
theorem dX7_judgesOn_33 : decode cX7_judgesOn 33 = .ok (.getfield 171, 3) := by decide +kernel
theorem dX7_judgesOn_36 : decode cX7_judgesOn 36 = .ok (.iconst 1, 1) := by decide +kernel
theorem dX7_judgesOn_37 : decode cX7_judgesOn 37 = .ok (.iadd, 1) := by decide +kernel
theorem dX7_judgesOn_38 : decode cX7_judgesOn 38 = .ok (.iastore, 1) := by decide +kernel
theorem dX7_judgesOn_39 : decode cX7_judgesOn 39 = .ok (.aload_n 0, 1) := by decide +kernel
theorem dX7_judgesOn_40 : decode cX7_judgesOn 40 = .ok (.getfield 7, 3) := by decide +kernel
theorem dX7_judgesOn_43 : decode cX7_judgesOn 43 = .ok (.iload_n 1, 1) := by decide +kernel
theorem dX7_judgesOn_44 : decode cX7_judgesOn 44 = .ok (.bipush 36, 2) := by decide +kernel
theorem dX7_judgesOn_46 : decode cX7_judgesOn 46 = .ok (.iadd, 1) := by decide +kernel
theorem dX7_judgesOn_47 : decode cX7_judgesOn 47 = .ok (.iload_n 2, 1) := by decide +kernel
theorem dX7_judgesOn_48 : decode cX7_judgesOn 48 = .ok (.iadd, 1) := by decide +kernel
theorem dX7_judgesOn_49 : decode cX7_judgesOn 49 = .ok (.iload_n 3, 1) := by decide +kernel
theorem dX7_judgesOn_50 : decode cX7_judgesOn 50 = .ok (.iconst 1, 1) := by decide +kernel
theorem dX7_judgesOn_51 : decode cX7_judgesOn 51 = .ok (.iadd, 1) := by decide +kernel
theorem dX7_judgesOn_52 : decode cX7_judgesOn 52 = .ok (.iastore, 1) := by decide +kernel
theorem dX7_judgesOn_53 : decode cX7_judgesOn 53 = .ok (.iload 4, 2) := by decide +kernel
theorem dX7_judgesOn_55 : decode cX7_judgesOn 55 = .ok (.ireturn, 1) := by decide +kernel
set_option maxRecDepth 20000 in
theorem ggX7_hears_X7_isHeard : GoodIn wsX7_hears wsX7_isHeard := goodIn_r _ [6, 7, 8, 9, 5, 10, 11, 12, 13, 14, 15, 16, 17, 18, 19, 49, 50, 51, 52, 53, 54, 55, 56, 57, 58, 59, 60, 61, 62, 63, 64, 65, 66, 67, 68, 69, 70, 71, 72, 73, 74, 75, 76, 77, 78, 79, 80, 81, 82, 83, 84] (by decide +kernel) (by decide +kernel)
set_option maxRecDepth 20000 in
theorem gX7_hears_X7_isHeard : GoodIn wsX7_hears (wsV RX7 207 RX7 yX7_isHeard wsX7_isHeard) := goodIn_app (goodIn_of _ (by decide +kernel)) ggX7_hears_X7_isHeard
set_option maxRecDepth 20000 in
theorem ggX7_hears_X7_judgesOn : GoodIn wsX7_hears wsX7_judgesOn := goodIn_r _ [23, 1, 24, 25, 26, 27, 5, 28, 29, 30, 31, 32, 33, 34, 35, 36, 37, 38, 39, 40, 41, 42, 43, 44, 45, 46, 47, 48, 49, 50, 51, 52, 53, 54, 55, 56, 57, 58, 59, 60, 61, 62, 63, 64, 65, 66, 67, 68, 69, 70, 71, 72, 73, 74, 75, 76, 77, 78, 79, 80, 81, 82, 83, 84] (by decide +kernel) (by decide +kernel)
set_option maxRecDepth 20000 in
theorem gX7_hears_X7_judgesOn : GoodIn wsX7_hears (wsV RX7 211 RX7 yX7_judgesOn wsX7_judgesOn) := goodIn_app (goodIn_of _ (by decide +kernel)) ggX7_hears_X7_judgesOn
theorem dX7_hears_0 : decode cX7_hears 0 = .ok (.aload_n 0, 1) := by decide +kernel
theorem dX7_hears_1 : decode cX7_hears 1 = .ok (.iload_n 1, 1) := by decide +kernel
theorem dX7_hears_2 : decode cX7_hears 2 = .ok (.iload_n 2, 1) := by decide +kernel
theorem dX7_hears_3 : decode cX7_hears 3 = .ok (.invokevirtual 207, 3) := by decide +kernel
theorem dX7_hears_6 : decode cX7_hears 6 = .ok (.ifCond .ne 5, 3) := by decide +kernel
theorem dX7_hears_9 : decode cX7_hears 9 = .ok (.iconst (-1), 1) := by decide +kernel
theorem dX7_hears_10 : decode cX7_hears 10 = .ok (.ireturn, 1) := by decide +kernel
theorem dX7_hears_11 : decode cX7_hears 11 = .ok (.aload_n 0, 1) := by decide +kernel
theorem dX7_hears_12 : decode cX7_hears 12 = .ok (.getfield 7, 3) := by decide +kernel
theorem dX7_hears_15 : decode cX7_hears 15 = .ok (.bipush 24, 2) := by decide +kernel
theorem dX7_hears_17 : decode cX7_hears 17 = .ok (.iload_n 1, 1) := by decide +kernel
theorem dX7_hears_18 : decode cX7_hears 18 = .ok (.iadd, 1) := by decide +kernel
theorem dX7_hears_19 : decode cX7_hears 19 = .ok (.iaload, 1) := by decide +kernel
theorem dX7_hears_20 : decode cX7_hears 20 = .ok (.ifCond .eq 8, 3) := by decide +kernel
theorem dX7_hears_23 : decode cX7_hears 23 = .ok (.bipush (-2), 2) := by decide +kernel
theorem dX7_hears_25 : decode cX7_hears 25 = .ok (.goto 10, 3) := by decide +kernel
theorem dX7_hears_28 : decode cX7_hears 28 = .ok (.aload_n 0, 1) := by decide +kernel
theorem dX7_hears_29 : decode cX7_hears 29 = .ok (.iconst 0, 1) := by decide +kernel
theorem dX7_hears_30 : decode cX7_hears 30 = .ok (.iload_n 1, 1) := by decide +kernel
theorem dX7_hears_31 : decode cX7_hears 31 = .ok (.iload_n 2, 1) := by decide +kernel
theorem dX7_hears_32 : decode cX7_hears 32 = .ok (.invokevirtual 211, 3) := by decide +kernel
theorem dX7_hears_35 : decode cX7_hears 35 = .ok (.ireturn, 1) := by decide +kernel
set_option maxRecDepth 20000 in
theorem ggX7_hear_X7_hears : GoodIn wsX7_hear wsX7_hears := goodIn_r _ [5, 6, 7, 8, 9, 4, 10, 11, 12, 13, 14, 15, 16, 17, 18, 19, 20, 21, 22, 23, 24, 25, 26, 27, 28, 29, 30, 31, 32, 33, 34, 35, 36, 37, 38, 39, 40, 41, 42, 43, 44, 45, 46, 47, 48, 49, 50, 51, 52, 53, 54, 55, 56, 57, 58, 59, 60, 61, 62, 63, 64, 65, 66, 67, 68, 69, 70, 71, 72, 73, 74, 75, 76, 77, 78, 79, 80, 81, 82, 83, 84, 85, 86, 87, 88] (by decide +kernel) (by decide +kernel)
set_option maxRecDepth 20000 in
theorem gX7_hear_X7_hears : GoodIn wsX7_hear (wsV RX7 214 RX7 yX7_hears wsX7_hears) := goodIn_app (goodIn_of _ (by decide +kernel)) ggX7_hear_X7_hears
theorem dX7_hear_0 : decode cX7_hear 0 = .ok (.aload_n 0, 1) := by decide +kernel
theorem dX7_hear_1 : decode cX7_hear 1 = .ok (.iload_n 1, 1) := by decide +kernel
theorem dX7_hear_2 : decode cX7_hear 2 = .ok (.iload_n 2, 1) := by decide +kernel
theorem dX7_hear_3 : decode cX7_hear 3 = .ok (.invokevirtual 214, 3) := by decide +kernel
theorem dX7_hear_6 : decode cX7_hear 6 = .ok (.ireturn, 1) := by decide +kernel
set_option maxRecDepth 20000 in
theorem ggX7_appeal_X7_isCase : GoodIn wsX7_appeal wsX7_isCase := goodIn_r _ [6, 7, 8, 9, 5, 10, 15, 16, 17, 18, 19, 20, 21, 22, 23, 24, 25, 26, 27, 28, 29, 30, 31, 32, 33, 34, 35, 36, 37, 38, 39, 40, 41, 42, 43, 44, 45, 46, 47, 48, 49, 50] (by decide +kernel) (by decide +kernel)
set_option maxRecDepth 20000 in
theorem gX7_appeal_X7_isCase : GoodIn wsX7_appeal (wsV RX7 184 RX7 yX7_isCase wsX7_isCase) := goodIn_app (goodIn_of _ (by decide +kernel)) ggX7_appeal_X7_isCase
set_option maxRecDepth 20000 in
theorem ggX7_appeal_X7_lengthOf : GoodIn wsX7_appeal wsX7_lengthOf := goodIn_r _ [14, 1, 15, 16, 17, 18, 19, 20, 21, 22, 23, 24, 25, 26, 27, 28, 29, 30, 31, 32, 33, 34, 35, 36, 37, 38, 39, 40, 41, 42, 43, 44, 45, 46, 47, 48, 49, 50] (by decide +kernel) (by decide +kernel)
set_option maxRecDepth 20000 in
theorem gX7_appeal_X7_lengthOf : GoodIn wsX7_appeal (wsV RX7 217 RX7 yX7_lengthOf wsX7_lengthOf) := goodIn_app (goodIn_of _ (by decide +kernel)) ggX7_appeal_X7_lengthOf
theorem dX7_appeal_0 : decode cX7_appeal 0 = .ok (.aload_n 0, 1) := by decide +kernel
theorem dX7_appeal_1 : decode cX7_appeal 1 = .ok (.iload_n 1, 1) := by decide +kernel
theorem dX7_appeal_2 : decode cX7_appeal 2 = .ok (.invokevirtual 184, 3) := by decide +kernel
theorem dX7_appeal_5 : decode cX7_appeal 5 = .ok (.ifCond .ne 5, 3) := by decide +kernel
theorem dX7_appeal_8 : decode cX7_appeal 8 = .ok (.iconst (-1), 1) := by decide +kernel
theorem dX7_appeal_9 : decode cX7_appeal 9 = .ok (.ireturn, 1) := by decide +kernel
theorem dX7_appeal_10 : decode cX7_appeal 10 = .ok (.aload_n 0, 1) := by decide +kernel
theorem dX7_appeal_11 : decode cX7_appeal 11 = .ok (.getfield 7, 3) := by decide +kernel
theorem dX7_appeal_14 : decode cX7_appeal 14 = .ok (.bipush 24, 2) := by decide +kernel
theorem dX7_appeal_16 : decode cX7_appeal 16 = .ok (.iload_n 1, 1) := by decide +kernel
theorem dX7_appeal_17 : decode cX7_appeal 17 = .ok (.iadd, 1) := by decide +kernel
theorem dX7_appeal_18 : decode cX7_appeal 18 = .ok (.iaload, 1) := by decide +kernel
theorem dX7_appeal_19 : decode cX7_appeal 19 = .ok (.ifCond .eq 16, 3) := by decide +kernel
theorem dX7_appeal_22 : decode cX7_appeal 22 = .ok (.aload_n 0, 1) := by decide +kernel
theorem dX7_appeal_23 : decode cX7_appeal 23 = .ok (.getfield 7, 3) := by decide +kernel
theorem dX7_appeal_26 : decode cX7_appeal 26 = .ok (.bipush 28, 2) := by decide +kernel
theorem dX7_appeal_28 : decode cX7_appeal 28 = .ok (.iload_n 1, 1) := by decide +kernel
theorem dX7_appeal_29 : decode cX7_appeal 29 = .ok (.iadd, 1) := by decide +kernel
theorem dX7_appeal_30 : decode cX7_appeal 30 = .ok (.iaload, 1) := by decide +kernel
theorem dX7_appeal_31 : decode cX7_appeal 31 = .ok (.iconst 1, 1) := by decide +kernel
theorem dX7_appeal_32 : decode cX7_appeal 32 = .ok (.if_icmp .ne 6, 3) := by decide +kernel
theorem dX7_appeal_35 : decode cX7_appeal 35 = .ok (.bipush (-2), 2) := by decide +kernel
theorem dX7_appeal_37 : decode cX7_appeal 37 = .ok (.ireturn, 1) := by decide +kernel
theorem dX7_appeal_38 : decode cX7_appeal 38 = .ok (.aload_n 0, 1) := by decide +kernel
theorem dX7_appeal_39 : decode cX7_appeal 39 = .ok (.getfield 7, 3) := by decide +kernel
theorem dX7_appeal_42 : decode cX7_appeal 42 = .ok (.bipush 24, 2) := by decide +kernel
theorem dX7_appeal_44 : decode cX7_appeal 44 = .ok (.iload_n 1, 1) := by decide +kernel
theorem dX7_appeal_45 : decode cX7_appeal 45 = .ok (.iadd, 1) := by decide +kernel
theorem dX7_appeal_46 : decode cX7_appeal 46 = .ok (.iconst 0, 1) := by decide +kernel
theorem dX7_appeal_47 : decode cX7_appeal 47 = .ok (.iastore, 1) := by decide +kernel
theorem dX7_appeal_48 : decode cX7_appeal 48 = .ok (.aload_n 0, 1) := by decide +kernel
theorem dX7_appeal_49 : decode cX7_appeal 49 = .ok (.getfield 7, 3) := by decide +kernel
theorem dX7_appeal_52 : decode cX7_appeal 52 = .ok (.bipush 28, 2) := by decide +kernel
theorem dX7_appeal_54 : decode cX7_appeal 54 = .ok (.iload_n 1, 1) := by decide +kernel
theorem dX7_appeal_55 : decode cX7_appeal 55 = .ok (.iadd, 1) := by decide +kernel
theorem dX7_appeal_56 : decode cX7_appeal 56 = .ok (.iconst 1, 1) := by decide +kernel
theorem dX7_appeal_57 : decode cX7_appeal 57 = .ok (.iastore, 1) := by decide +kernel
theorem dX7_appeal_58 : decode cX7_appeal 58 = .ok (.iconst 2, 1) := by decide +kernel
theorem dX7_appeal_59 : decode cX7_appeal 59 = .ok (.iload_n 1, 1) := by decide +kernel
theorem dX7_appeal_60 : decode cX7_appeal 60 = .ok (.imul, 1) := by decide +kernel
theorem dX7_appeal_61 : decode cX7_appeal 61 = .ok (.istore_n 2, 1) := by decide +kernel
theorem dX7_appeal_62 : decode cX7_appeal 62 = .ok (.iload_n 2, 1) := by decide +kernel
theorem dX7_appeal_63 : decode cX7_appeal 63 = .ok (.iconst 2, 1) := by decide +kernel
theorem dX7_appeal_64 : decode cX7_appeal 64 = .ok (.iload_n 1, 1) := by decide +kernel
theorem dX7_appeal_65 : decode cX7_appeal 65 = .ok (.imul, 1) := by decide +kernel
theorem dX7_appeal_66 : decode cX7_appeal 66 = .ok (.iconst 2, 1) := by decide +kernel
theorem dX7_appeal_67 : decode cX7_appeal 67 = .ok (.iadd, 1) := by decide +kernel
theorem dX7_appeal_68 : decode cX7_appeal 68 = .ok (.if_icmp .ge 38, 3) := by decide +kernel
theorem dX7_appeal_71 : decode cX7_appeal 71 = .ok (.aload_n 0, 1) := by decide +kernel
theorem dX7_appeal_72 : decode cX7_appeal 72 = .ok (.getfield 7, 3) := by decide +kernel
theorem dX7_appeal_75 : decode cX7_appeal 75 = .ok (.bipush 8, 2) := by decide +kernel
theorem dX7_appeal_77 : decode cX7_appeal 77 = .ok (.iload_n 2, 1) := by decide +kernel
theorem dX7_appeal_78 : decode cX7_appeal 78 = .ok (.iadd, 1) := by decide +kernel
theorem dX7_appeal_79 : decode cX7_appeal 79 = .ok (.dup2, 1) := by decide +kernel
theorem dX7_appeal_80 : decode cX7_appeal 80 = .ok (.iaload, 1) := by decide +kernel
theorem dX7_appeal_81 : decode cX7_appeal 81 = .ok (.aload_n 0, 1) := by decide +kernel
theorem dX7_appeal_82 : decode cX7_appeal 82 = .ok (.getfield 7, 3) := by decide +kernel
theorem dX7_appeal_85 : decode cX7_appeal 85 = .ok (.bipush 8, 2) := by decide +kernel
theorem dX7_appeal_87 : decode cX7_appeal 87 = .ok (.iload_n 2, 1) := by decide +kernel
theorem dX7_appeal_88 : decode cX7_appeal 88 = .ok (.iadd, 1) := by decide +kernel
theorem dX7_appeal_89 : decode cX7_appeal 89 = .ok (.iaload, 1) := by decide +kernel
theorem dX7_appeal_90 : decode cX7_appeal 90 = .ok (.ifCond .ne 7, 3) := by decide +kernel
theorem dX7_appeal_93 : decode cX7_appeal 93 = .ok (.iconst 1, 1) := by decide +kernel
theorem dX7_appeal_94 : decode cX7_appeal 94 = .ok (.goto 4, 3) := by decide +kernel
theorem dX7_appeal_97 : decode cX7_appeal 97 = .ok (.iconst 0, 1) := by decide +kernel
theorem dX7_appeal_98 : decode cX7_appeal 98 = .ok (.iadd, 1) := by decide +kernel
theorem dX7_appeal_99 : decode cX7_appeal 99 = .ok (.iastore, 1) := by decide +kernel
theorem dX7_appeal_100 : decode cX7_appeal 100 = .ok (.iinc 2 1, 3) := by decide +kernel
theorem dX7_appeal_103 : decode cX7_appeal 103 = .ok (.goto (-41), 3) := by decide +kernel
theorem dX7_appeal_106 : decode cX7_appeal 106 = .ok (.aload_n 0, 1) := by decide +kernel
theorem dX7_appeal_107 : decode cX7_appeal 107 = .ok (.iconst 0, 1) := by decide +kernel
theorem dX7_appeal_108 : decode cX7_appeal 108 = .ok (.iload_n 1, 1) := by decide +kernel
theorem dX7_appeal_109 : decode cX7_appeal 109 = .ok (.invokevirtual 217, 3) := by decide +kernel
theorem dX7_appeal_112 : decode cX7_appeal 112 = .ok (.ireturn, 1) := by decide +kernel
theorem dX7_copies_0 : decode cX7_copies 0 = .ok (.iconst 0, 1) := by decide +kernel
theorem dX7_copies_1 : decode cX7_copies 1 = .ok (.istore_n 3, 1) := by decide +kernel
theorem dX7_copies_2 : decode cX7_copies 2 = .ok (.iload_n 3, 1) := by decide +kernel
theorem dX7_copies_3 : decode cX7_copies 3 = .ok (.bipush 68, 2) := by decide +kernel
theorem dX7_copies_5 : decode cX7_copies 5 = .ok (.if_icmp .ge 25, 3) := by decide +kernel
theorem dX7_copies_8 : decode cX7_copies 8 = .ok (.aload_n 0, 1) := by decide +kernel
theorem dX7_copies_9 : decode cX7_copies 9 = .ok (.getfield 7, 3) := by decide +kernel
theorem dX7_copies_12 : decode cX7_copies 12 = .ok (.iload_n 2, 1) := by decide +kernel
theorem dX7_copies_13 : decode cX7_copies 13 = .ok (.iload_n 3, 1) := by decide +kernel
theorem dX7_copies_14 : decode cX7_copies 14 = .ok (.iadd, 1) := by decide +kernel
theorem dX7_copies_15 : decode cX7_copies 15 = .ok (.aload_n 0, 1) := by decide +kernel
theorem dX7_copies_16 : decode cX7_copies 16 = .ok (.getfield 7, 3) := by decide +kernel
theorem dX7_copies_19 : decode cX7_copies 19 = .ok (.iload_n 1, 1) := by decide +kernel
theorem dX7_copies_20 : decode cX7_copies 20 = .ok (.iload_n 3, 1) := by decide +kernel
theorem dX7_copies_21 : decode cX7_copies 21 = .ok (.iadd, 1) := by decide +kernel
theorem dX7_copies_22 : decode cX7_copies 22 = .ok (.iaload, 1) := by decide +kernel
theorem dX7_copies_23 : decode cX7_copies 23 = .ok (.iastore, 1) := by decide +kernel
theorem dX7_copies_24 : decode cX7_copies 24 = .ok (.iinc 3 1, 3) := by decide +kernel
theorem dX7_copies_27 : decode cX7_copies 27 = .ok (.goto (-25), 3) := by decide +kernel
theorem dX7_copies_30 : decode cX7_copies 30 = .ok (.return_, 1) := by decide +kernel
set_option maxRecDepth 20000 in
theorem ggX7_tries_X7_copies : GoodIn wsX7_tries wsX7_copies := goodIn_r _ [5, 6, 32, 33, 34, 35, 36, 37, 38, 39, 40, 41, 42, 43, 44, 45, 46, 47, 48, 49, 50, 51, 52, 53, 54, 55, 56, 57, 58, 59, 60, 61, 62, 63, 64, 65, 66, 67] (by decide +kernel) (by decide +kernel)
set_option maxRecDepth 20000 in
theorem gX7_tries_X7_copies : GoodIn wsX7_tries (wsV RX7 220 RX7 yX7_copies wsX7_copies) := goodIn_app (goodIn_of _ (by decide +kernel)) ggX7_tries_X7_copies
set_option maxRecDepth 20000 in
theorem ggX7_tries_X7_hearsOn : GoodIn wsX7_tries wsX7_hearsOn := goodIn_r _ [10, 6, 11, 12, 13, 14, 4, 15, 16, 17, 18, 19, 20, 21, 22, 23, 24, 25, 26, 27, 28, 29, 30, 31, 32, 33, 34, 35, 36, 37, 38, 39, 40, 41, 42, 43, 44, 45, 46, 47, 48, 49, 50, 51, 52, 53, 54, 55, 56, 57, 58, 59, 60, 61, 62, 63, 64, 65, 66, 67] (by decide +kernel) (by decide +kernel)
set_option maxRecDepth 20000 in
theorem gX7_tries_X7_hearsOn : GoodIn wsX7_tries (wsV RX7 204 RX7 yX7_hearsOn wsX7_hearsOn) := goodIn_app (goodIn_of _ (by decide +kernel)) ggX7_tries_X7_hearsOn
theorem dX7_tries_0 : decode cX7_tries 0 = .ok (.aload_n 0, 1) := by decide +kernel
theorem dX7_tries_1 : decode cX7_tries 1 = .ok (.iload_n 1, 1) := by decide +kernel
theorem dX7_tries_2 : decode cX7_tries 2 = .ok (.sipush 272, 3) := by decide +kernel
theorem dX7_tries_5 : decode cX7_tries 5 = .ok (.invokevirtual 220, 3) := by decide +kernel
theorem dX7_tries_8 : decode cX7_tries 8 = .ok (.aload_n 0, 1) := by decide +kernel
theorem dX7_tries_9 : decode cX7_tries 9 = .ok (.sipush 272, 3) := by decide +kernel
theorem dX7_tries_12 : decode cX7_tries 12 = .ok (.iload_n 2, 1) := by decide +kernel
theorem dX7_tries_13 : decode cX7_tries 13 = .ok (.iload_n 3, 1) := by decide +kernel
theorem dX7_tries_14 : decode cX7_tries 14 = .ok (.invokevirtual 204, 3) := by decide +kernel
theorem dX7_tries_17 : decode cX7_tries 17 = .ok (.ireturn, 1) := by decide +kernel
set_option maxRecDepth 20000 in
theorem ggX7_foretell_X7_isHeard : GoodIn wsX7_foretell wsX7_isHeard := goodIn_r _ [7, 8, 9, 10, 6, 11, 12, 13, 14, 15, 16, 17, 18, 19, 20, 58, 59, 60, 61, 62, 63, 64, 65, 66, 67, 68, 69, 70, 71, 72, 73, 74, 75, 76, 77, 78, 79, 80, 81, 82, 83, 84, 85, 86, 87, 88, 89, 90, 91, 92, 93] (by decide +kernel) (by decide +kernel)
set_option maxRecDepth 20000 in
theorem gX7_foretell_X7_isHeard : GoodIn wsX7_foretell (wsV RX7 207 RX7 yX7_isHeard wsX7_isHeard) := goodIn_app (goodIn_of _ (by decide +kernel)) ggX7_foretell_X7_isHeard
set_option maxRecDepth 20000 in
theorem ggX7_foretell_X7_in : GoodIn wsX7_foretell wsX7_in := goodIn_r _ [15] (by decide +kernel) (by decide +kernel)
set_option maxRecDepth 20000 in
theorem gX7_foretell_X7_in : GoodIn wsX7_foretell (va_wsS RX7 52 yX7_in wsX7_in) := goodIn_app (goodIn_of _ (by decide +kernel)) ggX7_foretell_X7_in
set_option maxRecDepth 20000 in
theorem ggX7_foretell_X7_tries : GoodIn wsX7_foretell wsX7_tries := goodIn_r _ [24, 25, 26, 27, 6, 28, 29, 30, 31, 32, 33, 2, 34, 35, 36, 37, 38, 39, 40, 41, 42, 43, 44, 45, 46, 47, 48, 49, 50, 51, 52, 53, 58, 59, 60, 61, 62, 63, 64, 65, 66, 67, 68, 69, 70, 71, 72, 73, 74, 75, 76, 77, 78, 79, 80, 81, 82, 83, 84, 85, 86, 87, 88, 89, 90, 91, 92, 93] (by decide +kernel) (by decide +kernel)
set_option maxRecDepth 20000 in
theorem gX7_foretell_X7_tries : GoodIn wsX7_foretell (wsV RX7 225 RX7 yX7_tries wsX7_tries) := goodIn_app (goodIn_of _ (by decide +kernel)) ggX7_foretell_X7_tries
set_option maxRecDepth 20000 in
theorem ggX7_foretell_X7_lengthOf : GoodIn wsX7_foretell wsX7_lengthOf := goodIn_r _ [57, 29, 58, 59, 60, 61, 62, 63, 64, 65, 66, 67, 68, 69, 70, 71, 72, 73, 74, 75, 76, 77, 78, 79, 80, 81, 82, 83, 84, 85, 86, 87, 88, 89, 90, 91, 92, 93] (by decide +kernel) (by decide +kernel)
set_option maxRecDepth 20000 in
theorem gX7_foretell_X7_lengthOf : GoodIn wsX7_foretell (wsV RX7 217 RX7 yX7_lengthOf wsX7_lengthOf) := goodIn_app (goodIn_of _ (by decide +kernel)) ggX7_foretell_X7_lengthOf
theorem dX7_foretell_0 : decode cX7_foretell 0 = .ok (.aload_n 0, 1) := by decide +kernel
theorem dX7_foretell_1 : decode cX7_foretell 1 = .ok (.iload_n 1, 1) := by decide +kernel
theorem dX7_foretell_2 : decode cX7_foretell 2 = .ok (.iload_n 2, 1) := by decide +kernel
theorem dX7_foretell_3 : decode cX7_foretell 3 = .ok (.invokevirtual 207, 3) := by decide +kernel
theorem dX7_foretell_6 : decode cX7_foretell 6 = .ok (.ifCond .eq 15, 3) := by decide +kernel
theorem dX7_foretell_9 : decode cX7_foretell 9 = .ok (.iload_n 3, 1) := by decide +kernel
theorem dX7_foretell_10 : decode cX7_foretell 10 = .ok (.i2l, 1) := by decide +kernel
theorem dX7_foretell_11 : decode cX7_foretell 11 = .ok (.lconst 0, 1) := by decide +kernel
theorem dX7_foretell_12 : decode cX7_foretell 12 = .ok (.ldc2_w 223, 3) := by decide +kernel
theorem dX7_foretell_15 : decode cX7_foretell 15 = .ok (.invokestatic 52, 3) := by decide +kernel
theorem dX7_foretell_18 : decode cX7_foretell 18 = .ok (.ifCond .ne 5, 3) := by decide +kernel
theorem dX7_foretell_21 : decode cX7_foretell 21 = .ok (.iconst (-1), 1) := by decide +kernel
theorem dX7_foretell_22 : decode cX7_foretell 22 = .ok (.ireturn, 1) := by decide +kernel
theorem dX7_foretell_23 : decode cX7_foretell 23 = .ok (.aload_n 0, 1) := by decide +kernel
theorem dX7_foretell_24 : decode cX7_foretell 24 = .ok (.iconst 0, 1) := by decide +kernel
theorem dX7_foretell_25 : decode cX7_foretell 25 = .ok (.iload_n 1, 1) := by decide +kernel
theorem dX7_foretell_26 : decode cX7_foretell 26 = .ok (.iload_n 2, 1) := by decide +kernel
theorem dX7_foretell_27 : decode cX7_foretell 27 = .ok (.invokevirtual 225, 3) := by decide +kernel
theorem dX7_foretell_30 : decode cX7_foretell 30 = .ok (.istore 4, 2) := by decide +kernel
theorem dX7_foretell_32 : decode cX7_foretell 32 = .ok (.iload_n 3, 1) := by decide +kernel
theorem dX7_foretell_33 : decode cX7_foretell 33 = .ok (.ifCond .ne 8, 3) := by decide +kernel
theorem dX7_foretell_36 : decode cX7_foretell 36 = .ok (.iload 4, 2) := by decide +kernel
theorem dX7_foretell_38 : decode cX7_foretell 38 = .ok (.goto 23, 3) := by decide +kernel
theorem dX7_foretell_41 : decode cX7_foretell 41 = .ok (.iload_n 3, 1) := by decide +kernel
theorem dX7_foretell_42 : decode cX7_foretell 42 = .ok (.iconst 1, 1) := by decide +kernel
theorem dX7_foretell_43 : decode cX7_foretell 43 = .ok (.if_icmp .ne 10, 3) := by decide +kernel
theorem dX7_foretell_46 : decode cX7_foretell 46 = .ok (.aload_n 0, 1) := by decide +kernel
theorem dX7_foretell_47 : decode cX7_foretell 47 = .ok (.getfield 171, 3) := by decide +kernel
theorem dX7_foretell_50 : decode cX7_foretell 50 = .ok (.goto 11, 3) := by decide +kernel
theorem dX7_foretell_53 : decode cX7_foretell 53 = .ok (.aload_n 0, 1) := by decide +kernel
theorem dX7_foretell_54 : decode cX7_foretell 54 = .ok (.sipush 272, 3) := by decide +kernel
theorem dX7_foretell_57 : decode cX7_foretell 57 = .ok (.iload_n 1, 1) := by decide +kernel
theorem dX7_foretell_58 : decode cX7_foretell 58 = .ok (.invokevirtual 217, 3) := by decide +kernel
theorem dX7_foretell_61 : decode cX7_foretell 61 = .ok (.ireturn, 1) := by decide +kernel
set_option maxRecDepth 20000 in
theorem ggX7_docketGoes_X7_copies : GoodIn wsX7_docketGoes wsX7_copies := goodIn_r _ [9, 3, 38, 39, 40, 41, 42, 43, 44, 45, 46, 47, 48, 49, 50, 51, 52, 53, 54, 55, 56, 57, 58, 59, 60, 61, 62, 63, 64, 65, 66, 67, 68, 69, 70, 71, 72, 73] (by decide +kernel) (by decide +kernel)
set_option maxRecDepth 20000 in
theorem gX7_docketGoes_X7_copies : GoodIn wsX7_docketGoes (wsV RX7 220 RX7 yX7_copies wsX7_copies) := goodIn_app (goodIn_of _ (by decide +kernel)) ggX7_docketGoes_X7_copies
set_option maxRecDepth 20000 in
theorem ggX7_docketGoes_X7_judgesOn : GoodIn wsX7_docketGoes wsX7_judgesOn := goodIn_r _ [13, 3, 4, 14, 15, 16, 8, 17, 18, 19, 20, 21, 22, 23, 24, 25, 26, 27, 28, 29, 30, 31, 32, 33, 34, 35, 36, 37, 38, 39, 40, 41, 42, 43, 44, 45, 46, 47, 48, 49, 50, 51, 52, 53, 54, 55, 56, 57, 58, 59, 60, 61, 62, 63, 64, 65, 66, 67, 68, 69, 70, 71, 72, 73] (by decide +kernel) (by decide +kernel)
set_option maxRecDepth 20000 in
theorem gX7_docketGoes_X7_judgesOn : GoodIn wsX7_docketGoes (wsV RX7 211 RX7 yX7_judgesOn wsX7_judgesOn) := goodIn_app (goodIn_of _ (by decide +kernel)) ggX7_docketGoes_X7_judgesOn
theorem dX7_docketGoes_0 : decode cX7_docketGoes 0 = .ok (.aload_n 0, 1) := by decide +kernel
theorem dX7_docketGoes_1 : decode cX7_docketGoes 1 = .ok (.iload_n 1, 1) := by decide +kernel
theorem dX7_docketGoes_2 : decode cX7_docketGoes 2 = .ok (.sipush 272, 3) := by decide +kernel
theorem dX7_docketGoes_5 : decode cX7_docketGoes 5 = .ok (.invokevirtual 220, 3) := by decide +kernel
theorem dX7_docketGoes_8 : decode cX7_docketGoes 8 = .ok (.aload_n 0, 1) := by decide +kernel
theorem dX7_docketGoes_9 : decode cX7_docketGoes 9 = .ok (.bipush (-4), 2) := by decide +kernel
theorem dX7_docketGoes_11 : decode cX7_docketGoes 11 = .ok (.putfield 228, 3) := by decide +kernel
theorem dX7_docketGoes_14 : decode cX7_docketGoes 14 = .ok (.aload_n 0, 1) := by decide +kernel
theorem dX7_docketGoes_15 : decode cX7_docketGoes 15 = .ok (.iconst 0, 1) := by decide +kernel
theorem dX7_docketGoes_16 : decode cX7_docketGoes 16 = .ok (.putfield 231, 3) := by decide +kernel
theorem dX7_docketGoes_19 : decode cX7_docketGoes 19 = .ok (.iconst 0, 1) := by decide +kernel
theorem dX7_docketGoes_20 : decode cX7_docketGoes 20 = .ok (.istore_n 2, 1) := by decide +kernel
theorem dX7_docketGoes_21 : decode cX7_docketGoes 21 = .ok (.iload_n 2, 1) := by decide +kernel
theorem dX7_docketGoes_22 : decode cX7_docketGoes 22 = .ok (.aload_n 0, 1) := by decide +kernel
theorem dX7_docketGoes_23 : decode cX7_docketGoes 23 = .ok (.getfield 7, 3) := by decide +kernel
theorem dX7_docketGoes_26 : decode cX7_docketGoes 26 = .ok (.iload_n 1, 1) := by decide +kernel
theorem dX7_docketGoes_27 : decode cX7_docketGoes 27 = .ok (.bipush 55, 2) := by decide +kernel
theorem dX7_docketGoes_29 : decode cX7_docketGoes 29 = .ok (.iadd, 1) := by decide +kernel
theorem dX7_docketGoes_30 : decode cX7_docketGoes 30 = .ok (.iaload, 1) := by decide +kernel
theorem dX7_docketGoes_31 : decode cX7_docketGoes 31 = .ok (.if_icmp .ge 93, 3) := by decide +kernel
theorem dX7_docketGoes_34 : decode cX7_docketGoes 34 = .ok (.aload_n 0, 1) := by decide +kernel
theorem dX7_docketGoes_35 : decode cX7_docketGoes 35 = .ok (.getfield 7, 3) := by decide +kernel
theorem dX7_docketGoes_38 : decode cX7_docketGoes 38 = .ok (.iload_n 1, 1) := by decide +kernel
theorem dX7_docketGoes_39 : decode cX7_docketGoes 39 = .ok (.bipush 56, 2) := by decide +kernel
theorem dX7_docketGoes_41 : decode cX7_docketGoes 41 = .ok (.iadd, 1) := by decide +kernel
theorem dX7_docketGoes_42 : decode cX7_docketGoes 42 = .ok (.iload_n 2, 1) := by decide +kernel
theorem dX7_docketGoes_43 : decode cX7_docketGoes 43 = .ok (.iadd, 1) := by decide +kernel
theorem dX7_docketGoes_44 : decode cX7_docketGoes 44 = .ok (.iaload, 1) := by decide +kernel
theorem dX7_docketGoes_45 : decode cX7_docketGoes 45 = .ok (.istore_n 3, 1) := by decide +kernel
theorem dX7_docketGoes_46 : decode cX7_docketGoes 46 = .ok (.aload_n 0, 1) := by decide +kernel
theorem dX7_docketGoes_47 : decode cX7_docketGoes 47 = .ok (.getfield 7, 3) := by decide +kernel
theorem dX7_docketGoes_50 : decode cX7_docketGoes 50 = .ok (.sipush 296, 3) := by decide +kernel
theorem dX7_docketGoes_53 : decode cX7_docketGoes 53 = .ok (.iload_n 3, 1) := by decide +kernel
theorem dX7_docketGoes_54 : decode cX7_docketGoes 54 = .ok (.iadd, 1) := by decide +kernel
theorem dX7_docketGoes_55 : decode cX7_docketGoes 55 = .ok (.iaload, 1) := by decide +kernel
theorem dX7_docketGoes_56 : decode cX7_docketGoes 56 = .ok (.ifCond .eq 27, 3) := by decide +kernel
theorem dX7_docketGoes_59 : decode cX7_docketGoes 59 = .ok (.aload_n 0, 1) := by decide +kernel
theorem dX7_docketGoes_60 : decode cX7_docketGoes 60 = .ok (.aload_n 0, 1) := by decide +kernel
theorem dX7_docketGoes_61 : decode cX7_docketGoes 61 = .ok (.getfield 228, 3) := by decide +kernel
theorem dX7_docketGoes_64 : decode cX7_docketGoes 64 = .ok (.bipush (-4), 2) := by decide +kernel
theorem dX7_docketGoes_66 : decode cX7_docketGoes 66 = .ok (.if_icmp .ne 7, 3) := by decide +kernel
theorem dX7_docketGoes_69 : decode cX7_docketGoes 69 = .ok (.iload_n 2, 1) := by decide +kernel
theorem dX7_docketGoes_70 : decode cX7_docketGoes 70 = .ok (.goto 7, 3) := by decide +kernel
theorem dX7_docketGoes_73 : decode cX7_docketGoes 73 = .ok (.aload_n 0, 1) := by decide +kernel
theorem dX7_docketGoes_74 : decode cX7_docketGoes 74 = .ok (.getfield 228, 3) := by decide +kernel
theorem dX7_docketGoes_77 : decode cX7_docketGoes 77 = .ok (.putfield 228, 3) := by decide +kernel
theorem dX7_docketGoes_80 : decode cX7_docketGoes 80 = .ok (.goto 38, 3) := by decide +kernel
theorem dX7_docketGoes_83 : decode cX7_docketGoes 83 = .ok (.aload_n 0, 1) := by decide +kernel
theorem dX7_docketGoes_84 : decode cX7_docketGoes 84 = .ok (.sipush 272, 3) := by decide +kernel
theorem dX7_docketGoes_87 : decode cX7_docketGoes 87 = .ok (.iload_n 3, 1) := by decide +kernel
theorem dX7_docketGoes_88 : decode cX7_docketGoes 88 = .ok (.aload_n 0, 1) := by decide +kernel
theorem dX7_docketGoes_89 : decode cX7_docketGoes 89 = .ok (.getfield 7, 3) := by decide +kernel
theorem dX7_docketGoes_92 : decode cX7_docketGoes 92 = .ok (.iload_n 1, 1) := by decide +kernel
theorem dX7_docketGoes_93 : decode cX7_docketGoes 93 = .ok (.bipush 62, 2) := by decide +kernel
theorem dX7_docketGoes_95 : decode cX7_docketGoes 95 = .ok (.iadd, 1) := by decide +kernel
theorem dX7_docketGoes_96 : decode cX7_docketGoes 96 = .ok (.iload_n 2, 1) := by decide +kernel
theorem dX7_docketGoes_97 : decode cX7_docketGoes 97 = .ok (.iadd, 1) := by decide +kernel
theorem dX7_docketGoes_98 : decode cX7_docketGoes 98 = .ok (.iaload, 1) := by decide +kernel
theorem dX7_docketGoes_99 : decode cX7_docketGoes 99 = .ok (.invokevirtual 211, 3) := by decide +kernel
theorem dX7_docketGoes_102 : decode cX7_docketGoes 102 = .ok (.pop, 1) := by decide +kernel
theorem dX7_docketGoes_103 : decode cX7_docketGoes 103 = .ok (.aload_n 0, 1) := by decide +kernel
theorem dX7_docketGoes_104 : decode cX7_docketGoes 104 = .ok (.dup, 1) := by decide +kernel
theorem dX7_docketGoes_105 : decode cX7_docketGoes 105 = .ok (.getfield 231, 3) := by decide +kernel
theorem dX7_docketGoes_108 : decode cX7_docketGoes 108 = .ok (.aload_n 0, 1) := by decide +kernel
theorem dX7_docketGoes_109 : decode cX7_docketGoes 109 = .ok (.getfield 171, 3) := by decide +kernel
theorem dX7_docketGoes_112 : decode cX7_docketGoes 112 = .ok (.iconst 1, 1) := by decide +kernel
theorem dX7_docketGoes_113 : decode cX7_docketGoes 113 = .ok (.iadd, 1) := by decide +kernel
theorem dX7_docketGoes_114 : decode cX7_docketGoes 114 = .ok (.iadd, 1) := by decide +kernel
theorem dX7_docketGoes_115 : decode cX7_docketGoes 115 = .ok (.putfield 231, 3) := by decide +kernel
theorem dX7_docketGoes_118 : decode cX7_docketGoes 118 = .ok (.iinc 2 1, 3) := by decide +kernel
theorem dX7_docketGoes_121 : decode cX7_docketGoes 121 = .ok (.goto (-100), 3) := by decide +kernel
theorem dX7_docketGoes_124 : decode cX7_docketGoes 124 = .ok (.return_, 1) := by decide +kernel
set_option maxRecDepth 20000 in
theorem ggX7_runs_X7_in : GoodIn wsX7_runs wsX7_in := goodIn_r _ [7] (by decide +kernel) (by decide +kernel)
set_option maxRecDepth 20000 in
theorem gX7_runs_X7_in : GoodIn wsX7_runs (va_wsS RX7 52 yX7_in wsX7_in) := goodIn_app (goodIn_of _ (by decide +kernel)) ggX7_runs_X7_in
set_option maxRecDepth 20000 in
theorem ggX7_runs_X7_docketGoes : GoodIn wsX7_runs wsX7_docketGoes := goodIn_r _ [11, 2, 3, 12, 13, 14, 15, 16, 6, 17, 18, 19, 20, 21, 22, 23, 24, 25, 26, 27, 28, 29, 30, 31, 32, 33, 34, 35, 36, 37, 38, 39, 40, 41, 42, 43, 44, 45, 51, 52, 53, 54, 55, 56, 57, 58, 59, 60, 61, 62, 63, 64, 65, 66, 67, 68, 69, 70, 71, 72, 73, 74, 75, 76, 77, 78, 79, 80, 81, 82, 83, 84, 85, 86] (by decide +kernel) (by decide +kernel)
set_option maxRecDepth 20000 in
theorem gX7_runs_X7_docketGoes : GoodIn wsX7_runs (wsV RX7 234 RX7 yX7_docketGoes wsX7_docketGoes) := goodIn_app (goodIn_of _ (by decide +kernel)) ggX7_runs_X7_docketGoes
set_option maxRecDepth 20000 in
theorem ggX7_runs_X7_wonOn : GoodIn wsX7_runs wsX7_wonOn := goodIn_r _ [49, 50, 12, 51, 52, 53, 54, 55, 56, 57, 58, 59, 60, 61, 62, 63, 64, 65, 66, 67, 68, 69, 70, 71, 72, 73, 74, 75, 76, 77, 78, 79, 80, 81, 82, 83, 84, 85, 86] (by decide +kernel) (by decide +kernel)
set_option maxRecDepth 20000 in
theorem gX7_runs_X7_wonOn : GoodIn wsX7_runs (wsV RX7 178 RX7 yX7_wonOn wsX7_wonOn) := goodIn_app (goodIn_of _ (by decide +kernel)) ggX7_runs_X7_wonOn
theorem dX7_runs_0 : decode cX7_runs 0 = .ok (.iload_n 1, 1) := by decide +kernel
theorem dX7_runs_1 : decode cX7_runs 1 = .ok (.i2l, 1) := by decide +kernel
theorem dX7_runs_2 : decode cX7_runs 2 = .ok (.lconst 0, 1) := by decide +kernel
theorem dX7_runs_3 : decode cX7_runs 3 = .ok (.ldc2_w 125, 3) := by decide +kernel
theorem dX7_runs_6 : decode cX7_runs 6 = .ok (.invokestatic 52, 3) := by decide +kernel
theorem dX7_runs_9 : decode cX7_runs 9 = .ok (.ifCond .ne 5, 3) := by decide +kernel
theorem dX7_runs_12 : decode cX7_runs 12 = .ok (.iconst (-1), 1) := by decide +kernel
theorem dX7_runs_13 : decode cX7_runs 13 = .ok (.ireturn, 1) := by decide +kernel
theorem dX7_runs_14 : decode cX7_runs 14 = .ok (.aload_n 0, 1) := by decide +kernel
theorem dX7_runs_15 : decode cX7_runs 15 = .ok (.iconst 0, 1) := by decide +kernel
theorem dX7_runs_16 : decode cX7_runs 16 = .ok (.invokevirtual 234, 3) := by decide +kernel
theorem dX7_runs_19 : decode cX7_runs 19 = .ok (.iload_n 1, 1) := by decide +kernel
theorem dX7_runs_20 : decode cX7_runs 20 = .ok (.iconst 3, 1) := by decide +kernel
theorem dX7_runs_21 : decode cX7_runs 21 = .ok (.if_icmp .ge 16, 3) := by decide +kernel
theorem dX7_runs_24 : decode cX7_runs 24 = .ok (.aload_n 0, 1) := by decide +kernel
theorem dX7_runs_25 : decode cX7_runs 25 = .ok (.sipush 272, 3) := by decide +kernel
theorem dX7_runs_28 : decode cX7_runs 28 = .ok (.iload_n 1, 1) := by decide +kernel
theorem dX7_runs_29 : decode cX7_runs 29 = .ok (.iconst 1, 1) := by decide +kernel
theorem dX7_runs_30 : decode cX7_runs 30 = .ok (.iadd, 1) := by decide +kernel
theorem dX7_runs_31 : decode cX7_runs 31 = .ok (.invokevirtual 178, 3) := by decide +kernel
theorem dX7_runs_34 : decode cX7_runs 34 = .ok (.goto 19, 3) := by decide +kernel
theorem dX7_runs_37 : decode cX7_runs 37 = .ok (.iload_n 1, 1) := by decide +kernel
theorem dX7_runs_38 : decode cX7_runs 38 = .ok (.iconst 3, 1) := by decide +kernel
theorem dX7_runs_39 : decode cX7_runs 39 = .ok (.if_icmp .ne 10, 3) := by decide +kernel
theorem dX7_runs_42 : decode cX7_runs 42 = .ok (.aload_n 0, 1) := by decide +kernel
theorem dX7_runs_43 : decode cX7_runs 43 = .ok (.getfield 228, 3) := by decide +kernel
theorem dX7_runs_46 : decode cX7_runs 46 = .ok (.goto 7, 3) := by decide +kernel
theorem dX7_runs_49 : decode cX7_runs 49 = .ok (.aload_n 0, 1) := by decide +kernel
theorem dX7_runs_50 : decode cX7_runs 50 = .ok (.getfield 231, 3) := by decide +kernel
theorem dX7_runs_53 : decode cX7_runs 53 = .ok (.ireturn, 1) := by decide +kernel
set_option maxRecDepth 20000 in
theorem ggX7_ahead_X7_isCase : GoodIn wsX7_ahead wsX7_isCase := goodIn_r _ [6, 7, 8, 9, 5, 10, 50, 51, 52, 53, 54, 55, 56, 57, 58, 59, 60, 61, 62, 63, 64, 65, 66, 67, 68, 69, 70, 71, 72, 73, 74, 75, 76, 77, 78, 79, 80, 81, 82, 83, 84, 85] (by decide +kernel) (by decide +kernel)
set_option maxRecDepth 20000 in
theorem gX7_ahead_X7_isCase : GoodIn wsX7_ahead (wsV RX7 184 RX7 yX7_isCase wsX7_isCase) := goodIn_app (goodIn_of _ (by decide +kernel)) ggX7_ahead_X7_isCase
set_option maxRecDepth 20000 in
theorem ggX7_ahead_X7_docketGoes : GoodIn wsX7_ahead wsX7_docketGoes := goodIn_r _ [14, 15, 16, 1, 17, 18, 19, 20, 5, 21, 22, 23, 24, 25, 26, 27, 28, 29, 30, 31, 32, 33, 34, 35, 36, 37, 38, 39, 40, 41, 42, 43, 44, 45, 46, 47, 48, 49, 50, 51, 52, 53, 54, 55, 56, 57, 58, 59, 60, 61, 62, 63, 64, 65, 66, 67, 68, 69, 70, 71, 72, 73, 74, 75, 76, 77, 78, 79, 80, 81, 82, 83, 84, 85] (by decide +kernel) (by decide +kernel)
set_option maxRecDepth 20000 in
theorem gX7_ahead_X7_docketGoes : GoodIn wsX7_ahead (wsV RX7 234 RX7 yX7_docketGoes wsX7_docketGoes) := goodIn_app (goodIn_of _ (by decide +kernel)) ggX7_ahead_X7_docketGoes
theorem dX7_ahead_0 : decode cX7_ahead 0 = .ok (.aload_n 0, 1) := by decide +kernel
theorem dX7_ahead_1 : decode cX7_ahead 1 = .ok (.iload_n 1, 1) := by decide +kernel
theorem dX7_ahead_2 : decode cX7_ahead 2 = .ok (.invokevirtual 184, 3) := by decide +kernel
theorem dX7_ahead_5 : decode cX7_ahead 5 = .ok (.ifCond .ne 5, 3) := by decide +kernel
theorem dX7_ahead_8 : decode cX7_ahead 8 = .ok (.iconst (-1), 1) := by decide +kernel
theorem dX7_ahead_9 : decode cX7_ahead 9 = .ok (.ireturn, 1) := by decide +kernel
theorem dX7_ahead_10 : decode cX7_ahead 10 = .ok (.aload_n 0, 1) := by decide +kernel
theorem dX7_ahead_11 : decode cX7_ahead 11 = .ok (.iconst 0, 1) := by decide +kernel
theorem dX7_ahead_12 : decode cX7_ahead 12 = .ok (.invokevirtual 234, 3) := by decide +kernel
theorem dX7_ahead_15 : decode cX7_ahead 15 = .ok (.aload_n 0, 1) := by decide +kernel
theorem dX7_ahead_16 : decode cX7_ahead 16 = .ok (.getfield 7, 3) := by decide +kernel
theorem dX7_ahead_19 : decode cX7_ahead 19 = .ok (.sipush 296, 3) := by decide +kernel
theorem dX7_ahead_22 : decode cX7_ahead 22 = .ok (.iload_n 1, 1) := by decide +kernel
theorem dX7_ahead_23 : decode cX7_ahead 23 = .ok (.iadd, 1) := by decide +kernel
theorem dX7_ahead_24 : decode cX7_ahead 24 = .ok (.iaload, 1) := by decide +kernel
theorem dX7_ahead_25 : decode cX7_ahead 25 = .ok (.ireturn, 1) := by decide +kernel
set_option maxRecDepth 20000 in
theorem ggX7_isWonBy_X7_tries : GoodIn wsX7_isWonBy wsX7_tries := goodIn_r _ [5, 6, 7, 8, 4, 9, 10, 11, 12, 13, 14, 15, 16, 17, 18, 19, 20, 21, 22, 23, 24, 25, 26, 27, 28, 29, 30, 31, 32, 33, 34, 35, 36, 37, 38, 39, 40, 41, 42, 43, 44, 45, 46, 47, 48, 49, 50, 51, 52, 53, 54, 55, 56, 57, 58, 59, 60, 61, 62, 63, 64, 65, 66, 67, 68, 69, 70, 71] (by decide +kernel) (by decide +kernel)
set_option maxRecDepth 20000 in
theorem gX7_isWonBy_X7_tries : GoodIn wsX7_isWonBy (wsV RX7 225 RX7 yX7_tries wsX7_tries) := goodIn_app (goodIn_of _ (by decide +kernel)) ggX7_isWonBy_X7_tries
theorem dX7_isWonBy_0 : decode cX7_isWonBy 0 = .ok (.aload_n 0, 1) := by decide +kernel
theorem dX7_isWonBy_1 : decode cX7_isWonBy 1 = .ok (.iload_n 1, 1) := by decide +kernel
theorem dX7_isWonBy_2 : decode cX7_isWonBy 2 = .ok (.iload_n 2, 1) := by decide +kernel
theorem dX7_isWonBy_3 : decode cX7_isWonBy 3 = .ok (.iload 4, 2) := by decide +kernel
theorem dX7_isWonBy_5 : decode cX7_isWonBy 5 = .ok (.invokevirtual 225, 3) := by decide +kernel
theorem dX7_isWonBy_8 : decode cX7_isWonBy 8 = .ok (.iload_n 3, 1) := by decide +kernel
theorem dX7_isWonBy_9 : decode cX7_isWonBy 9 = .ok (.iconst 1, 1) := by decide +kernel
theorem dX7_isWonBy_10 : decode cX7_isWonBy 10 = .ok (.iadd, 1) := by decide +kernel
theorem dX7_isWonBy_11 : decode cX7_isWonBy 11 = .ok (.if_icmp .ne 7, 3) := by decide +kernel
theorem dX7_isWonBy_14 : decode cX7_isWonBy 14 = .ok (.iconst 1, 1) := by decide +kernel
theorem dX7_isWonBy_15 : decode cX7_isWonBy 15 = .ok (.goto 4, 3) := by decide +kernel
theorem dX7_isWonBy_18 : decode cX7_isWonBy 18 = .ok (.iconst 0, 1) := by decide +kernel
theorem dX7_isWonBy_19 : decode cX7_isWonBy 19 = .ok (.ireturn, 1) := by decide +kernel
set_option maxRecDepth 20000 in
theorem ggX7_friends_X7_isCase : GoodIn wsX7_friends wsX7_isCase := goodIn_r _ [6, 7, 8, 9, 5, 10, 52, 53, 54, 55, 56, 57, 58, 59, 60, 61, 62, 63, 64, 65, 66, 67, 68, 69, 70, 71, 72, 73, 74, 75, 76, 77, 78, 79, 80, 81, 82, 83, 84, 85, 86, 87] (by decide +kernel) (by decide +kernel)
set_option maxRecDepth 20000 in
theorem gX7_friends_X7_isCase : GoodIn wsX7_friends (wsV RX7 184 RX7 yX7_isCase wsX7_isCase) := goodIn_app (goodIn_of _ (by decide +kernel)) ggX7_friends_X7_isCase
set_option maxRecDepth 20000 in
theorem ggX7_friends_X7_isSide : GoodIn wsX7_friends wsX7_isSide := goodIn_r _ [13, 8, 9, 5, 10] (by decide +kernel) (by decide +kernel)
set_option maxRecDepth 20000 in
theorem gX7_friends_X7_isSide : GoodIn wsX7_friends (va_wsS RX7 188 yX7_isSide wsX7_isSide) := goodIn_app (goodIn_of _ (by decide +kernel)) ggX7_friends_X7_isSide
set_option maxRecDepth 20000 in
theorem ggX7_friends_X7_isWonBy : GoodIn wsX7_friends wsX7_isWonBy := goodIn_r _ [17, 18, 19, 20, 5, 21, 22, 23, 24, 25, 26, 27, 28, 29, 30, 31, 32, 33, 34, 35, 36, 37, 38, 39, 40, 41, 42, 43, 44, 45, 46, 47, 48, 49, 50, 51, 52, 53, 54, 55, 56, 57, 58, 59, 60, 61, 62, 63, 64, 65, 66, 67, 68, 69, 70, 71, 72, 73, 74, 75, 76, 77, 78, 79, 80, 81, 82, 83, 84, 85, 86, 87] (by decide +kernel) (by decide +kernel)
set_option maxRecDepth 20000 in
theorem gX7_friends_X7_isWonBy : GoodIn wsX7_friends (wsV RX7 237 RX7 yX7_isWonBy wsX7_isWonBy) := goodIn_app (goodIn_of _ (by decide +kernel)) ggX7_friends_X7_isWonBy
theorem dX7_friends_0 : decode cX7_friends 0 = .ok (.aload_n 0, 1) := by decide +kernel
theorem dX7_friends_1 : decode cX7_friends 1 = .ok (.iload_n 1, 1) := by decide +kernel
theorem dX7_friends_2 : decode cX7_friends 2 = .ok (.invokevirtual 184, 3) := by decide +kernel
theorem dX7_friends_5 : decode cX7_friends 5 = .ok (.ifCond .eq 10, 3) := by decide +kernel
theorem dX7_friends_8 : decode cX7_friends 8 = .ok (.iload_n 2, 1) := by decide +kernel
theorem dX7_friends_9 : decode cX7_friends 9 = .ok (.invokestatic 188, 3) := by decide +kernel
theorem dX7_friends_12 : decode cX7_friends 12 = .ok (.ifCond .ne 5, 3) := by decide +kernel
theorem dX7_friends_15 : decode cX7_friends 15 = .ok (.iconst (-1), 1) := by decide +kernel
theorem dX7_friends_16 : decode cX7_friends 16 = .ok (.ireturn, 1) := by decide +kernel
theorem dX7_friends_17 : decode cX7_friends 17 = .ok (.iconst 0, 1) := by decide +kernel
theorem dX7_friends_18 : decode cX7_friends 18 = .ok (.istore_n 3, 1) := by decide +kernel
theorem dX7_friends_19 : decode cX7_friends 19 = .ok (.iconst 0, 1) := by decide +kernel
theorem dX7_friends_20 : decode cX7_friends 20 = .ok (.istore 4, 2) := by decide +kernel
theorem dX7_friends_22 : decode cX7_friends 22 = .ok (.iload 4, 2) := by decide +kernel
theorem dX7_friends_24 : decode cX7_friends 24 = .ok (.aload_n 0, 1) := by decide +kernel
theorem dX7_friends_25 : decode cX7_friends 25 = .ok (.getfield 145, 3) := by decide +kernel
theorem dX7_friends_28 : decode cX7_friends 28 = .ok (.if_icmp .ge 32, 3) := by decide +kernel
theorem dX7_friends_31 : decode cX7_friends 31 = .ok (.iload_n 3, 1) := by decide +kernel
theorem dX7_friends_32 : decode cX7_friends 32 = .ok (.aload_n 0, 1) := by decide +kernel
theorem dX7_friends_33 : decode cX7_friends 33 = .ok (.iconst 0, 1) := by decide +kernel
theorem dX7_friends_34 : decode cX7_friends 34 = .ok (.iload_n 1, 1) := by decide +kernel
theorem dX7_friends_35 : decode cX7_friends 35 = .ok (.iload_n 2, 1) := by decide +kernel
theorem dX7_friends_36 : decode cX7_friends 36 = .ok (.iload 4, 2) := by decide +kernel
theorem dX7_friends_38 : decode cX7_friends 38 = .ok (.invokevirtual 237, 3) := by decide +kernel
theorem dX7_friends_41 : decode cX7_friends 41 = .ok (.ifCond .eq 10, 3) := by decide +kernel
theorem dX7_friends_44 : decode cX7_friends 44 = .ok (.iconst 1, 1) := by decide +kernel
theorem dX7_friends_45 : decode cX7_friends 45 = .ok (.iload 4, 2) := by decide +kernel
theorem dX7_friends_47 : decode cX7_friends 47 = .ok (.ishl, 1) := by decide +kernel
theorem dX7_friends_48 : decode cX7_friends 48 = .ok (.goto 4, 3) := by decide +kernel
theorem dX7_friends_51 : decode cX7_friends 51 = .ok (.iconst 0, 1) := by decide +kernel
theorem dX7_friends_52 : decode cX7_friends 52 = .ok (.ior, 1) := by decide +kernel
theorem dX7_friends_53 : decode cX7_friends 53 = .ok (.istore_n 3, 1) := by decide +kernel
theorem dX7_friends_54 : decode cX7_friends 54 = .ok (.iinc 4 1, 3) := by decide +kernel
theorem dX7_friends_57 : decode cX7_friends 57 = .ok (.goto (-35), 3) := by decide +kernel
theorem dX7_friends_60 : decode cX7_friends 60 = .ok (.iload_n 3, 1) := by decide +kernel
theorem dX7_friends_61 : decode cX7_friends 61 = .ok (.ireturn, 1) := by decide +kernel
set_option maxRecDepth 20000 in
theorem ggX7_leastOf_X7_isHeard : GoodIn wsX7_leastOf wsX7_isHeard := goodIn_r _ [6, 7, 8, 9, 5, 10, 11, 12, 13, 14, 15, 16, 17, 18, 19, 60, 61, 62, 63, 64, 65, 66, 67, 68, 69, 70, 71, 72, 73, 74, 75, 76, 77, 78, 79, 80, 81, 82, 83, 84, 85, 86, 87, 88, 89, 90, 91, 92, 93, 94, 95] (by decide +kernel) (by decide +kernel)
set_option maxRecDepth 20000 in
theorem gX7_leastOf_X7_isHeard : GoodIn wsX7_leastOf (wsV RX7 207 RX7 yX7_isHeard wsX7_isHeard) := goodIn_app (goodIn_of _ (by decide +kernel)) ggX7_leastOf_X7_isHeard
set_option maxRecDepth 20000 in
theorem ggX7_leastOf_X7_isSide : GoodIn wsX7_leastOf wsX7_isSide := goodIn_r _ [22, 12, 13, 5, 14] (by decide +kernel) (by decide +kernel)
set_option maxRecDepth 20000 in
theorem gX7_leastOf_X7_isSide : GoodIn wsX7_leastOf (va_wsS RX7 188 yX7_isSide wsX7_isSide) := goodIn_app (goodIn_of _ (by decide +kernel)) ggX7_leastOf_X7_isSide
set_option maxRecDepth 20000 in
theorem ggX7_leastOf_X7_copies : GoodIn wsX7_leastOf wsX7_copies := goodIn_r _ [26, 1, 60, 61, 62, 63, 64, 65, 66, 67, 68, 69, 70, 71, 72, 73, 74, 75, 76, 77, 78, 79, 80, 81, 82, 83, 84, 85, 86, 87, 88, 89, 90, 91, 92, 93, 94, 95] (by decide +kernel) (by decide +kernel)
set_option maxRecDepth 20000 in
theorem gX7_leastOf_X7_copies : GoodIn wsX7_leastOf (wsV RX7 220 RX7 yX7_copies wsX7_copies) := goodIn_app (goodIn_of _ (by decide +kernel)) ggX7_leastOf_X7_copies
set_option maxRecDepth 20000 in
theorem ggX7_leastOf_X7_isWonBy : GoodIn wsX7_leastOf wsX7_isWonBy := goodIn_r _ [30, 31, 32, 33, 5, 34, 23, 24, 25, 26, 1, 35, 36, 37, 38, 39, 40, 41, 42, 43, 44, 45, 46, 47, 48, 49, 50, 51, 52, 53, 54, 55, 56, 57, 58, 59, 60, 61, 62, 63, 64, 65, 66, 67, 68, 69, 70, 71, 72, 73, 74, 75, 76, 77, 78, 79, 80, 81, 82, 83, 84, 85, 86, 87, 88, 89, 90, 91, 92, 93, 94, 95] (by decide +kernel) (by decide +kernel)
set_option maxRecDepth 20000 in
theorem gX7_leastOf_X7_isWonBy : GoodIn wsX7_leastOf (wsV RX7 237 RX7 yX7_isWonBy wsX7_isWonBy) := goodIn_app (goodIn_of _ (by decide +kernel)) ggX7_leastOf_X7_isWonBy
theorem dX7_leastOf_0 : decode cX7_leastOf 0 = .ok (.aload_n 0, 1) := by decide +kernel
theorem dX7_leastOf_1 : decode cX7_leastOf 1 = .ok (.iload_n 1, 1) := by decide +kernel
theorem dX7_leastOf_2 : decode cX7_leastOf 2 = .ok (.iload_n 3, 1) := by decide +kernel
theorem dX7_leastOf_3 : decode cX7_leastOf 3 = .ok (.invokevirtual 207, 3) := by decide +kernel
theorem dX7_leastOf_6 : decode cX7_leastOf 6 = .ok (.ifCond .eq 10, 3) := by decide +kernel
theorem dX7_leastOf_9 : decode cX7_leastOf 9 = .ok (.iload_n 2, 1) := by decide +kernel
theorem dX7_leastOf_10 : decode cX7_leastOf 10 = .ok (.invokestatic 188, 3) := by decide +kernel
theorem dX7_leastOf_13 : decode cX7_leastOf 13 = .ok (.ifCond .ne 5, 3) := by decide +kernel
theorem dX7_leastOf_16 : decode cX7_leastOf 16 = .ok (.iconst (-1), 1) := by decide +kernel
theorem dX7_leastOf_17 : decode cX7_leastOf 17 = .ok (.ireturn, 1) := by decide +kernel
theorem dX7_leastOf_18 : decode cX7_leastOf 18 = .ok (.iconst 0, 1) := by decide +kernel
theorem dX7_leastOf_19 : decode cX7_leastOf 19 = .ok (.istore 6, 2) := by decide +kernel
theorem dX7_leastOf_21 : decode cX7_leastOf 21 = .ok (.iload 6, 2) := by decide +kernel
theorem dX7_leastOf_23 : decode cX7_leastOf 23 = .ok (.iload 5, 2) := by decide +kernel
theorem dX7_leastOf_25 : decode cX7_leastOf 25 = .ok (.if_icmp .gt 52, 3) := by decide +kernel
theorem dX7_leastOf_28 : decode cX7_leastOf 28 = .ok (.aload_n 0, 1) := by decide +kernel
theorem dX7_leastOf_29 : decode cX7_leastOf 29 = .ok (.iconst 0, 1) := by decide +kernel
theorem dX7_leastOf_30 : decode cX7_leastOf 30 = .ok (.sipush 340, 3) := by decide +kernel
theorem dX7_leastOf_33 : decode cX7_leastOf 33 = .ok (.invokevirtual 220, 3) := by decide +kernel
theorem dX7_leastOf_36 : decode cX7_leastOf 36 = .ok (.aload_n 0, 1) := by decide +kernel
theorem dX7_leastOf_37 : decode cX7_leastOf 37 = .ok (.getfield 7, 3) := by decide +kernel
theorem dX7_leastOf_40 : decode cX7_leastOf 40 = .ok (.sipush 340, 3) := by decide +kernel
theorem dX7_leastOf_43 : decode cX7_leastOf 43 = .ok (.iload 4, 2) := by decide +kernel
theorem dX7_leastOf_45 : decode cX7_leastOf 45 = .ok (.iadd, 1) := by decide +kernel
theorem dX7_leastOf_46 : decode cX7_leastOf 46 = .ok (.iconst 2, 1) := by decide +kernel
theorem dX7_leastOf_47 : decode cX7_leastOf 47 = .ok (.iload_n 1, 1) := by decide +kernel
theorem dX7_leastOf_48 : decode cX7_leastOf 48 = .ok (.imul, 1) := by decide +kernel
theorem dX7_leastOf_49 : decode cX7_leastOf 49 = .ok (.iadd, 1) := by decide +kernel
theorem dX7_leastOf_50 : decode cX7_leastOf 50 = .ok (.iload_n 2, 1) := by decide +kernel
theorem dX7_leastOf_51 : decode cX7_leastOf 51 = .ok (.iadd, 1) := by decide +kernel
theorem dX7_leastOf_52 : decode cX7_leastOf 52 = .ok (.iload 6, 2) := by decide +kernel
theorem dX7_leastOf_54 : decode cX7_leastOf 54 = .ok (.iastore, 1) := by decide +kernel
theorem dX7_leastOf_55 : decode cX7_leastOf 55 = .ok (.aload_n 0, 1) := by decide +kernel
theorem dX7_leastOf_56 : decode cX7_leastOf 56 = .ok (.sipush 340, 3) := by decide +kernel
theorem dX7_leastOf_59 : decode cX7_leastOf 59 = .ok (.iload_n 1, 1) := by decide +kernel
theorem dX7_leastOf_60 : decode cX7_leastOf 60 = .ok (.iload_n 2, 1) := by decide +kernel
theorem dX7_leastOf_61 : decode cX7_leastOf 61 = .ok (.iload_n 3, 1) := by decide +kernel
theorem dX7_leastOf_62 : decode cX7_leastOf 62 = .ok (.invokevirtual 237, 3) := by decide +kernel
theorem dX7_leastOf_65 : decode cX7_leastOf 65 = .ok (.ifCond .eq 6, 3) := by decide +kernel
theorem dX7_leastOf_68 : decode cX7_leastOf 68 = .ok (.iload 6, 2) := by decide +kernel
theorem dX7_leastOf_70 : decode cX7_leastOf 70 = .ok (.ireturn, 1) := by decide +kernel
theorem dX7_leastOf_71 : decode cX7_leastOf 71 = .ok (.iinc 6 1, 3) := by decide +kernel
theorem dX7_leastOf_74 : decode cX7_leastOf 74 = .ok (.goto (-53), 3) := by decide +kernel
theorem dX7_leastOf_77 : decode cX7_leastOf 77 = .ok (.bipush (-4), 2) := by decide +kernel
theorem dX7_leastOf_79 : decode cX7_leastOf 79 = .ok (.ireturn, 1) := by decide +kernel
set_option maxRecDepth 20000 in
theorem ggX7_wax_X7_leastOf : GoodIn wsX7_wax wsX7_leastOf := goodIn_r _ [5, 6, 7, 8, 9, 4, 10, 11, 12, 13, 14, 15, 16, 17, 18, 19, 20, 21, 22, 23, 24, 25, 26, 27, 28, 29, 30, 31, 32, 33, 34, 35, 36, 37, 38, 39, 40, 41, 42, 43, 44, 45, 46, 47, 48, 49, 50, 51, 52, 53, 54, 55, 56, 57, 58, 59, 60, 61, 62, 63, 64, 65, 66, 67, 68, 69, 70, 71, 72, 73, 74, 75, 76, 77, 78, 79, 80, 81, 82, 83, 84, 85, 86, 87, 88, 89, 90, 91, 92, 93, 94, 95, 96, 97, 98, 99] (by decide +kernel) (by decide +kernel)
set_option maxRecDepth 20000 in
theorem gX7_wax_X7_leastOf : GoodIn wsX7_wax (wsV RX7 241 RX7 yX7_leastOf wsX7_leastOf) := goodIn_app (goodIn_of _ (by decide +kernel)) ggX7_wax_X7_leastOf
theorem dX7_wax_0 : decode cX7_wax 0 = .ok (.aload_n 0, 1) := by decide +kernel
theorem dX7_wax_1 : decode cX7_wax 1 = .ok (.iload_n 1, 1) := by decide +kernel
theorem dX7_wax_2 : decode cX7_wax 2 = .ok (.iload_n 2, 1) := by decide +kernel
theorem dX7_wax_3 : decode cX7_wax 3 = .ok (.iload_n 3, 1) := by decide +kernel
theorem dX7_wax_4 : decode cX7_wax 4 = .ok (.iconst 0, 1) := by decide +kernel
theorem dX7_wax_5 : decode cX7_wax 5 = .ok (.iconst 3, 1) := by decide +kernel
theorem dX7_wax_6 : decode cX7_wax 6 = .ok (.invokevirtual 241, 3) := by decide +kernel
theorem dX7_wax_9 : decode cX7_wax 9 = .ok (.ireturn, 1) := by decide +kernel
set_option maxRecDepth 20000 in
theorem ggX7_least_X7_leastOf : GoodIn wsX7_least wsX7_leastOf := goodIn_r _ [5, 6, 7, 8, 9, 4, 10, 11, 12, 13, 14, 15, 16, 17, 18, 19, 20, 21, 22, 23, 24, 25, 26, 27, 28, 29, 30, 31, 32, 33, 34, 35, 36, 37, 38, 39, 40, 41, 42, 43, 44, 45, 46, 47, 48, 49, 50, 51, 52, 53, 54, 55, 56, 57, 58, 59, 60, 61, 62, 63, 64, 65, 66, 67, 68, 69, 70, 71, 72, 73, 74, 75, 76, 77, 78, 79, 80, 81, 82, 83, 84, 85, 86, 87, 88, 89, 90, 91, 92, 93, 94, 95, 96, 97, 98, 99] (by decide +kernel) (by decide +kernel)
set_option maxRecDepth 20000 in
theorem gX7_least_X7_leastOf : GoodIn wsX7_least (wsV RX7 241 RX7 yX7_leastOf wsX7_leastOf) := goodIn_app (goodIn_of _ (by decide +kernel)) ggX7_least_X7_leastOf
theorem dX7_least_0 : decode cX7_least 0 = .ok (.aload_n 0, 1) := by decide +kernel
theorem dX7_least_1 : decode cX7_least 1 = .ok (.iload_n 1, 1) := by decide +kernel
theorem dX7_least_2 : decode cX7_least 2 = .ok (.iload_n 2, 1) := by decide +kernel
theorem dX7_least_3 : decode cX7_least 3 = .ok (.iload_n 3, 1) := by decide +kernel
theorem dX7_least_4 : decode cX7_least 4 = .ok (.bipush 8, 2) := by decide +kernel
theorem dX7_least_6 : decode cX7_least 6 = .ok (.bipush 99, 2) := by decide +kernel
theorem dX7_least_8 : decode cX7_least 8 = .ok (.invokevirtual 241, 3) := by decide +kernel
theorem dX7_least_11 : decode cX7_least 11 = .ok (.ireturn, 1) := by decide +kernel
set_option maxRecDepth 20000 in
theorem ggX7_hand_X7_leastOf : GoodIn wsX7_hand wsX7_leastOf := goodIn_r _ [5, 6, 7, 8, 9, 4, 10, 11, 12, 13, 14, 15, 16, 17, 18, 19, 20, 21, 22, 23, 24, 25, 26, 27, 28, 29, 30, 31, 32, 33, 34, 35, 36, 37, 38, 39, 40, 41, 42, 43, 44, 45, 46, 47, 48, 49, 50, 51, 52, 53, 54, 55, 56, 57, 58, 59, 60, 61, 62, 63, 64, 65, 66, 67, 68, 69, 70, 71, 72, 73, 74, 75, 76, 77, 78, 79, 80, 81, 82, 83, 84, 85, 86, 87, 88, 89, 90, 91, 92, 93, 94, 95, 96, 97, 98, 99] (by decide +kernel) (by decide +kernel)
set_option maxRecDepth 20000 in
theorem gX7_hand_X7_leastOf : GoodIn wsX7_hand (wsV RX7 241 RX7 yX7_leastOf wsX7_leastOf) := goodIn_app (goodIn_of _ (by decide +kernel)) ggX7_hand_X7_leastOf
theorem dX7_hand_0 : decode cX7_hand 0 = .ok (.aload_n 0, 1) := by decide +kernel
theorem dX7_hand_1 : decode cX7_hand 1 = .ok (.iload_n 1, 1) := by decide +kernel
theorem dX7_hand_2 : decode cX7_hand 2 = .ok (.iload_n 2, 1) := by decide +kernel
theorem dX7_hand_3 : decode cX7_hand 3 = .ok (.iload_n 3, 1) := by decide +kernel
theorem dX7_hand_4 : decode cX7_hand 4 = .ok (.bipush 16, 2) := by decide +kernel
theorem dX7_hand_6 : decode cX7_hand 6 = .ok (.bipush 9, 2) := by decide +kernel
theorem dX7_hand_8 : decode cX7_hand 8 = .ok (.invokevirtual 241, 3) := by decide +kernel
theorem dX7_hand_11 : decode cX7_hand 11 = .ok (.ireturn, 1) := by decide +kernel
set_option maxRecDepth 20000 in
theorem ggX7_turn_X7_isHeard : GoodIn wsX7_turn wsX7_isHeard := goodIn_r _ [8, 9, 10, 11, 7, 12, 13, 14, 15, 16, 17, 18, 19, 20, 21, 54, 55, 56, 57, 58, 59, 60, 61, 62, 63, 64, 65, 66, 67, 68, 69, 70, 71, 72, 73, 74, 75, 76, 77, 78, 79, 80, 81, 82, 83, 84, 85, 86, 87, 88, 89] (by decide +kernel) (by decide +kernel)
set_option maxRecDepth 20000 in
theorem gX7_turn_X7_isHeard : GoodIn wsX7_turn (wsV RX7 207 RX7 yX7_isHeard wsX7_isHeard) := goodIn_app (goodIn_of _ (by decide +kernel)) ggX7_turn_X7_isHeard
set_option maxRecDepth 20000 in
theorem ggX7_turn_X7_in : GoodIn wsX7_turn wsX7_in := goodIn_r _ [16] (by decide +kernel) (by decide +kernel)
set_option maxRecDepth 20000 in
theorem gX7_turn_X7_in : GoodIn wsX7_turn (va_wsS RX7 52 yX7_in wsX7_in) := goodIn_app (goodIn_of _ (by decide +kernel)) ggX7_turn_X7_in
set_option maxRecDepth 20000 in
theorem ggX7_turn_X7_tries : GoodIn wsX7_turn wsX7_tries := goodIn_r _ [25, 26, 27, 28, 7, 29, 30, 31, 32, 33, 34, 35, 36, 37, 38, 39, 40, 41, 42, 43, 3, 2, 44, 45, 46, 47, 48, 49, 50, 51, 52, 53, 54, 55, 56, 57, 58, 59, 60, 61, 62, 63, 64, 65, 66, 67, 68, 69, 70, 71, 72, 73, 74, 75, 76, 77, 78, 79, 80, 81, 82, 83, 84, 85, 86, 87, 88, 89] (by decide +kernel) (by decide +kernel)
set_option maxRecDepth 20000 in
theorem gX7_turn_X7_tries : GoodIn wsX7_turn (wsV RX7 225 RX7 yX7_tries wsX7_tries) := goodIn_app (goodIn_of _ (by decide +kernel)) ggX7_turn_X7_tries
theorem dX7_turn_0 : decode cX7_turn 0 = .ok (.aload_n 0, 1) := by decide +kernel
theorem dX7_turn_1 : decode cX7_turn 1 = .ok (.iload_n 1, 1) := by decide +kernel
theorem dX7_turn_2 : decode cX7_turn 2 = .ok (.iload_n 2, 1) := by decide +kernel
theorem dX7_turn_3 : decode cX7_turn 3 = .ok (.invokevirtual 207, 3) := by decide +kernel
theorem dX7_turn_6 : decode cX7_turn 6 = .ok (.ifCond .eq 15, 3) := by decide +kernel
theorem dX7_turn_9 : decode cX7_turn 9 = .ok (.iload_n 3, 1) := by decide +kernel
theorem dX7_turn_10 : decode cX7_turn 10 = .ok (.i2l, 1) := by decide +kernel
theorem dX7_turn_11 : decode cX7_turn 11 = .ok (.lconst 1, 1) := by decide +kernel
theorem dX7_turn_12 : decode cX7_turn 12 = .ok (.ldc2_w 196, 3) := by decide +kernel
theorem dX7_turn_15 : decode cX7_turn 15 = .ok (.invokestatic 52, 3) := by decide +kernel
theorem dX7_turn_18 : decode cX7_turn 18 = .ok (.ifCond .ne 5, 3) := by decide +kernel
theorem dX7_turn_21 : decode cX7_turn 21 = .ok (.iconst (-1), 1) := by decide +kernel
theorem dX7_turn_22 : decode cX7_turn 22 = .ok (.ireturn, 1) := by decide +kernel
theorem dX7_turn_23 : decode cX7_turn 23 = .ok (.aload_n 0, 1) := by decide +kernel
theorem dX7_turn_24 : decode cX7_turn 24 = .ok (.iconst 0, 1) := by decide +kernel
theorem dX7_turn_25 : decode cX7_turn 25 = .ok (.iload_n 1, 1) := by decide +kernel
theorem dX7_turn_26 : decode cX7_turn 26 = .ok (.iload_n 2, 1) := by decide +kernel
theorem dX7_turn_27 : decode cX7_turn 27 = .ok (.invokevirtual 225, 3) := by decide +kernel
theorem dX7_turn_30 : decode cX7_turn 30 = .ok (.istore 4, 2) := by decide +kernel
theorem dX7_turn_32 : decode cX7_turn 32 = .ok (.bipush (-4), 2) := by decide +kernel
theorem dX7_turn_34 : decode cX7_turn 34 = .ok (.istore 5, 2) := by decide +kernel
theorem dX7_turn_36 : decode cX7_turn 36 = .ok (.iconst 0, 1) := by decide +kernel
theorem dX7_turn_37 : decode cX7_turn 37 = .ok (.istore 6, 2) := by decide +kernel
theorem dX7_turn_39 : decode cX7_turn 39 = .ok (.iload 6, 2) := by decide +kernel
theorem dX7_turn_41 : decode cX7_turn 41 = .ok (.bipush 20, 2) := by decide +kernel
theorem dX7_turn_43 : decode cX7_turn 43 = .ok (.if_icmp .gt 48, 3) := by decide +kernel
theorem dX7_turn_46 : decode cX7_turn 46 = .ok (.iload 5, 2) := by decide +kernel
theorem dX7_turn_48 : decode cX7_turn 48 = .ok (.bipush (-4), 2) := by decide +kernel
theorem dX7_turn_50 : decode cX7_turn 50 = .ok (.if_icmp .ne 41, 3) := by decide +kernel
theorem dX7_turn_53 : decode cX7_turn 53 = .ok (.aload_n 0, 1) := by decide +kernel
theorem dX7_turn_54 : decode cX7_turn 54 = .ok (.iload 6, 2) := by decide +kernel
theorem dX7_turn_56 : decode cX7_turn 56 = .ok (.putfield 154, 3) := by decide +kernel
theorem dX7_turn_59 : decode cX7_turn 59 = .ok (.aload_n 0, 1) := by decide +kernel
theorem dX7_turn_60 : decode cX7_turn 60 = .ok (.iload_n 3, 1) := by decide +kernel
theorem dX7_turn_61 : decode cX7_turn 61 = .ok (.putfield 151, 3) := by decide +kernel
theorem dX7_turn_64 : decode cX7_turn 64 = .ok (.aload_n 0, 1) := by decide +kernel
theorem dX7_turn_65 : decode cX7_turn 65 = .ok (.iconst 0, 1) := by decide +kernel
theorem dX7_turn_66 : decode cX7_turn 66 = .ok (.iload_n 1, 1) := by decide +kernel
theorem dX7_turn_67 : decode cX7_turn 67 = .ok (.iload_n 2, 1) := by decide +kernel
theorem dX7_turn_68 : decode cX7_turn 68 = .ok (.invokevirtual 225, 3) := by decide +kernel
theorem dX7_turn_71 : decode cX7_turn 71 = .ok (.iload 4, 2) := by decide +kernel
theorem dX7_turn_73 : decode cX7_turn 73 = .ok (.if_icmp .eq 8, 3) := by decide +kernel
theorem dX7_turn_76 : decode cX7_turn 76 = .ok (.iload 6, 2) := by decide +kernel
theorem dX7_turn_78 : decode cX7_turn 78 = .ok (.goto 5, 3) := by decide +kernel
theorem dX7_turn_81 : decode cX7_turn 81 = .ok (.bipush (-4), 2) := by decide +kernel
theorem dX7_turn_83 : decode cX7_turn 83 = .ok (.istore 5, 2) := by decide +kernel
theorem dX7_turn_85 : decode cX7_turn 85 = .ok (.iinc 6 1, 3) := by decide +kernel
theorem dX7_turn_88 : decode cX7_turn 88 = .ok (.goto (-49), 3) := by decide +kernel
theorem dX7_turn_91 : decode cX7_turn 91 = .ok (.aload_n 0, 1) := by decide +kernel
theorem dX7_turn_92 : decode cX7_turn 92 = .ok (.iconst 0, 1) := by decide +kernel
theorem dX7_turn_93 : decode cX7_turn 93 = .ok (.putfield 151, 3) := by decide +kernel
theorem dX7_turn_96 : decode cX7_turn 96 = .ok (.iload 5, 2) := by decide +kernel
theorem dX7_turn_98 : decode cX7_turn 98 = .ok (.ireturn, 1) := by decide +kernel
set_option maxRecDepth 20000 in
theorem ggX7_byGuards_X7_copies : GoodIn wsX7_byGuards wsX7_copies := goodIn_r _ [6, 1, 36, 37, 38, 39, 40, 41, 42, 43, 44, 45, 46, 47, 48, 49, 50, 51, 52, 53, 54, 55, 56, 57, 58, 59, 60, 61, 62, 63, 64, 65, 66, 67, 68, 69, 70, 71] (by decide +kernel) (by decide +kernel)
set_option maxRecDepth 20000 in
theorem gX7_byGuards_X7_copies : GoodIn wsX7_byGuards (wsV RX7 220 RX7 yX7_copies wsX7_copies) := goodIn_app (goodIn_of _ (by decide +kernel)) ggX7_byGuards_X7_copies
set_option maxRecDepth 20000 in
theorem ggX7_byGuards_X7_tries : GoodIn wsX7_byGuards wsX7_tries := goodIn_r _ [10, 2, 3, 4, 5, 6, 1, 11, 12, 13, 14, 15, 16, 17, 18, 19, 20, 21, 22, 23, 24, 25, 26, 27, 28, 29, 30, 31, 32, 33, 34, 35, 36, 37, 38, 39, 40, 41, 42, 43, 44, 45, 46, 47, 48, 49, 50, 51, 52, 53, 54, 55, 56, 57, 58, 59, 60, 61, 62, 63, 64, 65, 66, 67, 68, 69, 70, 71] (by decide +kernel) (by decide +kernel)
set_option maxRecDepth 20000 in
theorem gX7_byGuards_X7_tries : GoodIn wsX7_byGuards (wsV RX7 225 RX7 yX7_tries wsX7_tries) := goodIn_app (goodIn_of _ (by decide +kernel)) ggX7_byGuards_X7_tries
theorem dX7_byGuards_0 : decode cX7_byGuards 0 = .ok (.aload_n 0, 1) := by decide +kernel
theorem dX7_byGuards_1 : decode cX7_byGuards 1 = .ok (.iconst 0, 1) := by decide +kernel
theorem dX7_byGuards_2 : decode cX7_byGuards 2 = .ok (.sipush 340, 3) := by decide +kernel
theorem dX7_byGuards_5 : decode cX7_byGuards 5 = .ok (.invokevirtual 220, 3) := by decide +kernel
theorem dX7_byGuards_8 : decode cX7_byGuards 8 = .ok (.aload_n 0, 1) := by decide +kernel
theorem dX7_byGuards_9 : decode cX7_byGuards 9 = .ok (.getfield 7, 3) := by decide +kernel
theorem dX7_byGuards_12 : decode cX7_byGuards 12 = .ok (.sipush 356, 3) := by decide +kernel
theorem dX7_byGuards_15 : decode cX7_byGuards 15 = .ok (.iconst 2, 1) := by decide +kernel
theorem dX7_byGuards_16 : decode cX7_byGuards 16 = .ok (.iload_n 1, 1) := by decide +kernel
theorem dX7_byGuards_17 : decode cX7_byGuards 17 = .ok (.imul, 1) := by decide +kernel
theorem dX7_byGuards_18 : decode cX7_byGuards 18 = .ok (.iadd, 1) := by decide +kernel
theorem dX7_byGuards_19 : decode cX7_byGuards 19 = .ok (.iload_n 3, 1) := by decide +kernel
theorem dX7_byGuards_20 : decode cX7_byGuards 20 = .ok (.iastore, 1) := by decide +kernel
theorem dX7_byGuards_21 : decode cX7_byGuards 21 = .ok (.aload_n 0, 1) := by decide +kernel
theorem dX7_byGuards_22 : decode cX7_byGuards 22 = .ok (.getfield 7, 3) := by decide +kernel
theorem dX7_byGuards_25 : decode cX7_byGuards 25 = .ok (.sipush 356, 3) := by decide +kernel
theorem dX7_byGuards_28 : decode cX7_byGuards 28 = .ok (.iconst 2, 1) := by decide +kernel
theorem dX7_byGuards_29 : decode cX7_byGuards 29 = .ok (.iload_n 1, 1) := by decide +kernel
theorem dX7_byGuards_30 : decode cX7_byGuards 30 = .ok (.imul, 1) := by decide +kernel
theorem dX7_byGuards_31 : decode cX7_byGuards 31 = .ok (.iadd, 1) := by decide +kernel
theorem dX7_byGuards_32 : decode cX7_byGuards 32 = .ok (.iconst 1, 1) := by decide +kernel
theorem dX7_byGuards_33 : decode cX7_byGuards 33 = .ok (.iadd, 1) := by decide +kernel
theorem dX7_byGuards_34 : decode cX7_byGuards 34 = .ok (.iload 4, 2) := by decide +kernel
theorem dX7_byGuards_36 : decode cX7_byGuards 36 = .ok (.iastore, 1) := by decide +kernel
theorem dX7_byGuards_37 : decode cX7_byGuards 37 = .ok (.aload_n 0, 1) := by decide +kernel
theorem dX7_byGuards_38 : decode cX7_byGuards 38 = .ok (.sipush 340, 3) := by decide +kernel
theorem dX7_byGuards_41 : decode cX7_byGuards 41 = .ok (.iload_n 1, 1) := by decide +kernel
theorem dX7_byGuards_42 : decode cX7_byGuards 42 = .ok (.iload_n 2, 1) := by decide +kernel
theorem dX7_byGuards_43 : decode cX7_byGuards 43 = .ok (.invokevirtual 225, 3) := by decide +kernel
theorem dX7_byGuards_46 : decode cX7_byGuards 46 = .ok (.ireturn, 1) := by decide +kernel
set_option maxRecDepth 20000 in
theorem ggX7_sure_X7_isHeard : GoodIn wsX7_sure wsX7_isHeard := goodIn_r _ [5, 6, 7, 8, 4, 9, 10, 11, 12, 13, 14, 15, 16, 17, 18, 60, 61, 62, 63, 64, 65, 66, 67, 68, 69, 70, 71, 72, 73, 74, 75, 76, 77, 78, 79, 80, 81, 82, 83, 84, 85, 86, 87, 88, 89, 90, 91, 92, 93, 94, 95] (by decide +kernel) (by decide +kernel)
set_option maxRecDepth 20000 in
theorem gX7_sure_X7_isHeard : GoodIn wsX7_sure (wsV RX7 207 RX7 yX7_isHeard wsX7_isHeard) := goodIn_app (goodIn_of _ (by decide +kernel)) ggX7_sure_X7_isHeard
set_option maxRecDepth 20000 in
theorem ggX7_sure_X7_isSide : GoodIn wsX7_sure wsX7_isSide := goodIn_r _ [21, 11, 12, 4, 13] (by decide +kernel) (by decide +kernel)
set_option maxRecDepth 20000 in
theorem gX7_sure_X7_isSide : GoodIn wsX7_sure (va_wsS RX7 188 yX7_isSide wsX7_isSide) := goodIn_app (goodIn_of _ (by decide +kernel)) ggX7_sure_X7_isSide
set_option maxRecDepth 20000 in
theorem ggX7_sure_X7_byGuards : GoodIn wsX7_sure wsX7_byGuards := goodIn_r _ [25, 26, 27, 28, 29, 4, 30, 31, 32, 33, 34, 35, 36, 37, 38, 39, 40, 41, 42, 43, 44, 45, 46, 47, 48, 49, 50, 51, 52, 53, 54, 55, 56, 57, 58, 59, 60, 61, 62, 63, 64, 65, 66, 67, 68, 69, 70, 71, 72, 73, 74, 75, 76, 77, 78, 79, 80, 81, 82, 83, 84, 85, 86, 87, 88, 89, 90, 91, 92, 93, 94, 95] (by decide +kernel) (by decide +kernel)
set_option maxRecDepth 20000 in
theorem gX7_sure_X7_byGuards : GoodIn wsX7_sure (wsV RX7 245 RX7 yX7_byGuards wsX7_byGuards) := goodIn_app (goodIn_of _ (by decide +kernel)) ggX7_sure_X7_byGuards
theorem dX7_sure_0 : decode cX7_sure 0 = .ok (.aload_n 0, 1) := by decide +kernel
theorem dX7_sure_1 : decode cX7_sure 1 = .ok (.iload_n 1, 1) := by decide +kernel
theorem dX7_sure_2 : decode cX7_sure 2 = .ok (.iload_n 3, 1) := by decide +kernel
theorem dX7_sure_3 : decode cX7_sure 3 = .ok (.invokevirtual 207, 3) := by decide +kernel
theorem dX7_sure_6 : decode cX7_sure 6 = .ok (.ifCond .eq 10, 3) := by decide +kernel
theorem dX7_sure_9 : decode cX7_sure 9 = .ok (.iload_n 2, 1) := by decide +kernel
theorem dX7_sure_10 : decode cX7_sure 10 = .ok (.invokestatic 188, 3) := by decide +kernel
theorem dX7_sure_13 : decode cX7_sure 13 = .ok (.ifCond .ne 5, 3) := by decide +kernel
theorem dX7_sure_16 : decode cX7_sure 16 = .ok (.iconst (-1), 1) := by decide +kernel
theorem dX7_sure_17 : decode cX7_sure 17 = .ok (.ireturn, 1) := by decide +kernel
theorem dX7_sure_18 : decode cX7_sure 18 = .ok (.iconst 0, 1) := by decide +kernel
theorem dX7_sure_19 : decode cX7_sure 19 = .ok (.istore 4, 2) := by decide +kernel
theorem dX7_sure_21 : decode cX7_sure 21 = .ok (.iload 4, 2) := by decide +kernel
theorem dX7_sure_23 : decode cX7_sure 23 = .ok (.bipush 9, 2) := by decide +kernel
theorem dX7_sure_25 : decode cX7_sure 25 = .ok (.if_icmp .gt 82, 3) := by decide +kernel
theorem dX7_sure_28 : decode cX7_sure 28 = .ok (.iconst 1, 1) := by decide +kernel
theorem dX7_sure_29 : decode cX7_sure 29 = .ok (.istore 5, 2) := by decide +kernel
theorem dX7_sure_31 : decode cX7_sure 31 = .ok (.iconst 0, 1) := by decide +kernel
theorem dX7_sure_32 : decode cX7_sure 32 = .ok (.istore 6, 2) := by decide +kernel
theorem dX7_sure_34 : decode cX7_sure 34 = .ok (.iload 6, 2) := by decide +kernel
theorem dX7_sure_36 : decode cX7_sure 36 = .ok (.bipush 9, 2) := by decide +kernel
theorem dX7_sure_38 : decode cX7_sure 38 = .ok (.if_icmp .gt 55, 3) := by decide +kernel
theorem dX7_sure_41 : decode cX7_sure 41 = .ok (.iload 5, 2) := by decide +kernel
theorem dX7_sure_43 : decode cX7_sure 43 = .ok (.ifCond .eq 41, 3) := by decide +kernel
theorem dX7_sure_46 : decode cX7_sure 46 = .ok (.aload_n 0, 1) := by decide +kernel
theorem dX7_sure_47 : decode cX7_sure 47 = .ok (.iload_n 1, 1) := by decide +kernel
theorem dX7_sure_48 : decode cX7_sure 48 = .ok (.iload_n 3, 1) := by decide +kernel
theorem dX7_sure_49 : decode cX7_sure 49 = .ok (.iload_n 2, 1) := by decide +kernel
theorem dX7_sure_50 : decode cX7_sure 50 = .ok (.ifCond .ne 8, 3) := by decide +kernel
theorem dX7_sure_53 : decode cX7_sure 53 = .ok (.iload 4, 2) := by decide +kernel
theorem dX7_sure_55 : decode cX7_sure 55 = .ok (.goto 5, 3) := by decide +kernel
theorem dX7_sure_58 : decode cX7_sure 58 = .ok (.iload 6, 2) := by decide +kernel
theorem dX7_sure_60 : decode cX7_sure 60 = .ok (.iload_n 2, 1) := by decide +kernel
theorem dX7_sure_61 : decode cX7_sure 61 = .ok (.ifCond .ne 8, 3) := by decide +kernel
theorem dX7_sure_64 : decode cX7_sure 64 = .ok (.iload 6, 2) := by decide +kernel
theorem dX7_sure_66 : decode cX7_sure 66 = .ok (.goto 5, 3) := by decide +kernel
theorem dX7_sure_69 : decode cX7_sure 69 = .ok (.iload 4, 2) := by decide +kernel
theorem dX7_sure_71 : decode cX7_sure 71 = .ok (.invokevirtual 245, 3) := by decide +kernel
theorem dX7_sure_74 : decode cX7_sure 74 = .ok (.iload_n 2, 1) := by decide +kernel
theorem dX7_sure_75 : decode cX7_sure 75 = .ok (.iconst 1, 1) := by decide +kernel
theorem dX7_sure_76 : decode cX7_sure 76 = .ok (.iadd, 1) := by decide +kernel
theorem dX7_sure_77 : decode cX7_sure 77 = .ok (.if_icmp .ne 7, 3) := by decide +kernel
theorem dX7_sure_80 : decode cX7_sure 80 = .ok (.iconst 1, 1) := by decide +kernel
theorem dX7_sure_81 : decode cX7_sure 81 = .ok (.goto 4, 3) := by decide +kernel
theorem dX7_sure_84 : decode cX7_sure 84 = .ok (.iconst 0, 1) := by decide +kernel
theorem dX7_sure_85 : decode cX7_sure 85 = .ok (.istore 5, 2) := by decide +kernel
theorem dX7_sure_87 : decode cX7_sure 87 = .ok (.iinc 6 1, 3) := by decide +kernel
theorem dX7_sure_90 : decode cX7_sure 90 = .ok (.goto (-56), 3) := by decide +kernel
theorem dX7_sure_93 : decode cX7_sure 93 = .ok (.iload 5, 2) := by decide +kernel
theorem dX7_sure_95 : decode cX7_sure 95 = .ok (.ifCond .eq 6, 3) := by decide +kernel
theorem dX7_sure_98 : decode cX7_sure 98 = .ok (.iload 4, 2) := by decide +kernel
theorem dX7_sure_100 : decode cX7_sure 100 = .ok (.ireturn, 1) := by decide +kernel
theorem dX7_sure_101 : decode cX7_sure 101 = .ok (.iinc 4 1, 3) := by decide +kernel
theorem dX7_sure_104 : decode cX7_sure 104 = .ok (.goto (-83), 3) := by decide +kernel
theorem dX7_sure_107 : decode cX7_sure 107 = .ok (.bipush (-4), 2) := by decide +kernel
theorem dX7_sure_109 : decode cX7_sure 109 = .ok (.ireturn, 1) := by decide +kernel
theorem dX7_isRest_0 : decode cX7_isRest 0 = .ok (.iconst 1, 1) := by decide +kernel
theorem dX7_isRest_1 : decode cX7_isRest 1 = .ok (.istore_n 3, 1) := by decide +kernel
theorem dX7_isRest_2 : decode cX7_isRest 2 = .ok (.iconst 0, 1) := by decide +kernel
theorem dX7_isRest_3 : decode cX7_isRest 3 = .ok (.istore 4, 2) := by decide +kernel
theorem dX7_isRest_5 : decode cX7_isRest 5 = .ok (.iload 4, 2) := by decide +kernel
theorem dX7_isRest_7 : decode cX7_isRest 7 = .ok (.bipush 9, 2) := by decide +kernel
theorem dX7_isRest_9 : decode cX7_isRest 9 = .ok (.if_icmp .gt 71, 3) := by decide +kernel
theorem dX7_isRest_12 : decode cX7_isRest 12 = .ok (.iload_n 3, 1) := by decide +kernel
theorem dX7_isRest_13 : decode cX7_isRest 13 = .ok (.ifCond .eq 59, 3) := by decide +kernel
theorem dX7_isRest_16 : decode cX7_isRest 16 = .ok (.aload_n 0, 1) := by decide +kernel
theorem dX7_isRest_17 : decode cX7_isRest 17 = .ok (.getfield 28, 3) := by decide +kernel
theorem dX7_isRest_20 : decode cX7_isRest 20 = .ok (.bipush 10, 2) := by decide +kernel
theorem dX7_isRest_22 : decode cX7_isRest 22 = .ok (.iload 4, 2) := by decide +kernel
theorem dX7_isRest_24 : decode cX7_isRest 24 = .ok (.imul, 1) := by decide +kernel
theorem dX7_isRest_25 : decode cX7_isRest 25 = .ok (.iload_n 2, 1) := by decide +kernel
theorem dX7_isRest_26 : decode cX7_isRest 26 = .ok (.iadd, 1) := by decide +kernel
theorem dX7_isRest_27 : decode cX7_isRest 27 = .ok (.iaload, 1) := by decide +kernel
theorem dX7_isRest_28 : decode cX7_isRest 28 = .ok (.aload_n 0, 1) := by decide +kernel
theorem dX7_isRest_29 : decode cX7_isRest 29 = .ok (.getfield 28, 3) := by decide +kernel
theorem dX7_isRest_32 : decode cX7_isRest 32 = .ok (.bipush 10, 2) := by decide +kernel
theorem dX7_isRest_34 : decode cX7_isRest 34 = .ok (.iload_n 1, 1) := by decide +kernel
theorem dX7_isRest_35 : decode cX7_isRest 35 = .ok (.imul, 1) := by decide +kernel
theorem dX7_isRest_36 : decode cX7_isRest 36 = .ok (.iload_n 2, 1) := by decide +kernel
theorem dX7_isRest_37 : decode cX7_isRest 37 = .ok (.iadd, 1) := by decide +kernel
theorem dX7_isRest_38 : decode cX7_isRest 38 = .ok (.iaload, 1) := by decide +kernel
theorem dX7_isRest_39 : decode cX7_isRest 39 = .ok (.if_icmp .gt 33, 3) := by decide +kernel
theorem dX7_isRest_42 : decode cX7_isRest 42 = .ok (.aload_n 0, 1) := by decide +kernel
theorem dX7_isRest_43 : decode cX7_isRest 43 = .ok (.getfield 28, 3) := by decide +kernel
theorem dX7_isRest_46 : decode cX7_isRest 46 = .ok (.bipush 10, 2) := by decide +kernel
theorem dX7_isRest_48 : decode cX7_isRest 48 = .ok (.iload_n 1, 1) := by decide +kernel
theorem dX7_isRest_49 : decode cX7_isRest 49 = .ok (.imul, 1) := by decide +kernel
theorem dX7_isRest_50 : decode cX7_isRest 50 = .ok (.iload 4, 2) := by decide +kernel
theorem dX7_isRest_52 : decode cX7_isRest 52 = .ok (.iadd, 1) := by decide +kernel
theorem dX7_isRest_53 : decode cX7_isRest 53 = .ok (.iaload, 1) := by decide +kernel
theorem dX7_isRest_54 : decode cX7_isRest 54 = .ok (.aload_n 0, 1) := by decide +kernel
theorem dX7_isRest_55 : decode cX7_isRest 55 = .ok (.getfield 28, 3) := by decide +kernel
theorem dX7_isRest_58 : decode cX7_isRest 58 = .ok (.bipush 10, 2) := by decide +kernel
theorem dX7_isRest_60 : decode cX7_isRest 60 = .ok (.iload_n 1, 1) := by decide +kernel
theorem dX7_isRest_61 : decode cX7_isRest 61 = .ok (.imul, 1) := by decide +kernel
theorem dX7_isRest_62 : decode cX7_isRest 62 = .ok (.iload_n 2, 1) := by decide +kernel
theorem dX7_isRest_63 : decode cX7_isRest 63 = .ok (.iadd, 1) := by decide +kernel
theorem dX7_isRest_64 : decode cX7_isRest 64 = .ok (.iaload, 1) := by decide +kernel
theorem dX7_isRest_65 : decode cX7_isRest 65 = .ok (.if_icmp .lt 7, 3) := by decide +kernel
theorem dX7_isRest_68 : decode cX7_isRest 68 = .ok (.iconst 1, 1) := by decide +kernel
theorem dX7_isRest_69 : decode cX7_isRest 69 = .ok (.goto 4, 3) := by decide +kernel
theorem dX7_isRest_72 : decode cX7_isRest 72 = .ok (.iconst 0, 1) := by decide +kernel
theorem dX7_isRest_73 : decode cX7_isRest 73 = .ok (.istore_n 3, 1) := by decide +kernel
theorem dX7_isRest_74 : decode cX7_isRest 74 = .ok (.iinc 4 1, 3) := by decide +kernel
theorem dX7_isRest_77 : decode cX7_isRest 77 = .ok (.goto (-72), 3) := by decide +kernel
theorem dX7_isRest_80 : decode cX7_isRest 80 = .ok (.iload_n 3, 1) := by decide +kernel
theorem dX7_isRest_81 : decode cX7_isRest 81 = .ok (.ireturn, 1) := by decide +kernel
set_option maxRecDepth 20000 in
theorem ggX7_rest_X7_isHeard : GoodIn wsX7_rest wsX7_isHeard := goodIn_r _ [6, 7, 8, 9, 5, 10, 11, 12, 13, 14, 15, 16, 17, 18, 19, 62, 63, 64, 65, 66, 67, 68, 69, 70, 71, 72, 73, 74, 75, 76, 77, 78, 79, 80, 81, 82, 83, 84, 85, 86, 87, 88, 89, 90, 91, 92, 93, 94, 95, 96, 97] (by decide +kernel) (by decide +kernel)
set_option maxRecDepth 20000 in
theorem gX7_rest_X7_isHeard : GoodIn wsX7_rest (wsV RX7 207 RX7 yX7_isHeard wsX7_isHeard) := goodIn_app (goodIn_of _ (by decide +kernel)) ggX7_rest_X7_isHeard
set_option maxRecDepth 20000 in
theorem ggX7_rest_X7_in : GoodIn wsX7_rest wsX7_in := goodIn_r _ [14] (by decide +kernel) (by decide +kernel)
set_option maxRecDepth 20000 in
theorem gX7_rest_X7_in : GoodIn wsX7_rest (va_wsS RX7 52 yX7_in wsX7_in) := goodIn_app (goodIn_of _ (by decide +kernel)) ggX7_rest_X7_in
set_option maxRecDepth 20000 in
theorem ggX7_rest_X7_byGuards : GoodIn wsX7_rest wsX7_byGuards := goodIn_r _ [23, 24, 25, 26, 27, 5, 28, 29, 30, 31, 32, 33, 34, 35, 36, 37, 38, 39, 40, 41, 42, 43, 44, 45, 46, 47, 48, 49, 50, 51, 52, 53, 54, 55, 56, 57, 62, 63, 64, 65, 66, 67, 68, 69, 70, 71, 72, 73, 74, 75, 76, 77, 78, 79, 80, 81, 82, 83, 84, 85, 86, 87, 88, 89, 90, 91, 92, 93, 94, 95, 96, 97] (by decide +kernel) (by decide +kernel)
set_option maxRecDepth 20000 in
theorem gX7_rest_X7_byGuards : GoodIn wsX7_rest (wsV RX7 245 RX7 yX7_byGuards wsX7_byGuards) := goodIn_app (goodIn_of _ (by decide +kernel)) ggX7_rest_X7_byGuards
set_option maxRecDepth 20000 in
theorem ggX7_rest_X7_isRest : GoodIn wsX7_rest wsX7_isRest := goodIn_r _ [61, 1, 62, 63, 64, 65, 66, 67, 68, 69, 70, 71, 72, 73, 74, 75, 76, 77, 78, 79, 80, 81, 82, 83, 84, 85, 86, 87, 88, 89, 90, 91, 92, 93, 94, 95, 96, 97] (by decide +kernel) (by decide +kernel)
set_option maxRecDepth 20000 in
theorem gX7_rest_X7_isRest : GoodIn wsX7_rest (wsV RX7 249 RX7 yX7_isRest wsX7_isRest) := goodIn_app (goodIn_of _ (by decide +kernel)) ggX7_rest_X7_isRest
theorem dX7_rest_0 : decode cX7_rest 0 = .ok (.aload_n 0, 1) := by decide +kernel
theorem dX7_rest_1 : decode cX7_rest 1 = .ok (.iload_n 1, 1) := by decide +kernel
theorem dX7_rest_2 : decode cX7_rest 2 = .ok (.iload_n 2, 1) := by decide +kernel
theorem dX7_rest_3 : decode cX7_rest 3 = .ok (.invokevirtual 207, 3) := by decide +kernel
theorem dX7_rest_6 : decode cX7_rest 6 = .ok (.ifCond .eq 13, 3) := by decide +kernel
theorem dX7_rest_9 : decode cX7_rest 9 = .ok (.iload_n 3, 1) := by decide +kernel
theorem dX7_rest_10 : decode cX7_rest 10 = .ok (.i2l, 1) := by decide +kernel
theorem dX7_rest_11 : decode cX7_rest 11 = .ok (.lconst 0, 1) := by decide +kernel
theorem dX7_rest_12 : decode cX7_rest 12 = .ok (.lconst 1, 1) := by decide +kernel
theorem dX7_rest_13 : decode cX7_rest 13 = .ok (.invokestatic 52, 3) := by decide +kernel
theorem dX7_rest_16 : decode cX7_rest 16 = .ok (.ifCond .ne 5, 3) := by decide +kernel
theorem dX7_rest_19 : decode cX7_rest 19 = .ok (.iconst (-1), 1) := by decide +kernel
theorem dX7_rest_20 : decode cX7_rest 20 = .ok (.ireturn, 1) := by decide +kernel
theorem dX7_rest_21 : decode cX7_rest 21 = .ok (.iconst 0, 1) := by decide +kernel
theorem dX7_rest_22 : decode cX7_rest 22 = .ok (.istore 4, 2) := by decide +kernel
theorem dX7_rest_24 : decode cX7_rest 24 = .ok (.iload 4, 2) := by decide +kernel
theorem dX7_rest_26 : decode cX7_rest 26 = .ok (.bipush 100, 2) := by decide +kernel
theorem dX7_rest_28 : decode cX7_rest 28 = .ok (.if_icmp .ge 55, 3) := by decide +kernel
theorem dX7_rest_31 : decode cX7_rest 31 = .ok (.aload_n 0, 1) := by decide +kernel
theorem dX7_rest_32 : decode cX7_rest 32 = .ok (.iload_n 1, 1) := by decide +kernel
theorem dX7_rest_33 : decode cX7_rest 33 = .ok (.iload_n 2, 1) := by decide +kernel
theorem dX7_rest_34 : decode cX7_rest 34 = .ok (.iload 4, 2) := by decide +kernel
theorem dX7_rest_36 : decode cX7_rest 36 = .ok (.bipush 10, 2) := by decide +kernel
theorem dX7_rest_38 : decode cX7_rest 38 = .ok (.idiv, 1) := by decide +kernel
theorem dX7_rest_39 : decode cX7_rest 39 = .ok (.iload 4, 2) := by decide +kernel
theorem dX7_rest_41 : decode cX7_rest 41 = .ok (.bipush 10, 2) := by decide +kernel
theorem dX7_rest_43 : decode cX7_rest 43 = .ok (.irem, 1) := by decide +kernel
theorem dX7_rest_44 : decode cX7_rest 44 = .ok (.invokevirtual 245, 3) := by decide +kernel
theorem dX7_rest_47 : decode cX7_rest 47 = .ok (.istore 5, 2) := by decide +kernel
theorem dX7_rest_49 : decode cX7_rest 49 = .ok (.aload_n 0, 1) := by decide +kernel
theorem dX7_rest_50 : decode cX7_rest 50 = .ok (.getfield 28, 3) := by decide +kernel
theorem dX7_rest_53 : decode cX7_rest 53 = .ok (.iload 4, 2) := by decide +kernel
theorem dX7_rest_55 : decode cX7_rest 55 = .ok (.iload 5, 2) := by decide +kernel
theorem dX7_rest_57 : decode cX7_rest 57 = .ok (.iconst 1, 1) := by decide +kernel
theorem dX7_rest_58 : decode cX7_rest 58 = .ok (.if_icmp .ne 7, 3) := by decide +kernel
theorem dX7_rest_61 : decode cX7_rest 61 = .ok (.iconst 2, 1) := by decide +kernel
theorem dX7_rest_62 : decode cX7_rest 62 = .ok (.goto 14, 3) := by decide +kernel
theorem dX7_rest_65 : decode cX7_rest 65 = .ok (.iload 5, 2) := by decide +kernel
theorem dX7_rest_67 : decode cX7_rest 67 = .ok (.iconst 3, 1) := by decide +kernel
theorem dX7_rest_68 : decode cX7_rest 68 = .ok (.if_icmp .ne 7, 3) := by decide +kernel
theorem dX7_rest_71 : decode cX7_rest 71 = .ok (.iconst 1, 1) := by decide +kernel
theorem dX7_rest_72 : decode cX7_rest 72 = .ok (.goto 4, 3) := by decide +kernel
theorem dX7_rest_75 : decode cX7_rest 75 = .ok (.iconst 0, 1) := by decide +kernel
theorem dX7_rest_76 : decode cX7_rest 76 = .ok (.iastore, 1) := by decide +kernel
theorem dX7_rest_77 : decode cX7_rest 77 = .ok (.iinc 4 1, 3) := by decide +kernel
theorem dX7_rest_80 : decode cX7_rest 80 = .ok (.goto (-56), 3) := by decide +kernel
theorem dX7_rest_83 : decode cX7_rest 83 = .ok (.iconst 0, 1) := by decide +kernel
theorem dX7_rest_84 : decode cX7_rest 84 = .ok (.istore 4, 2) := by decide +kernel
theorem dX7_rest_86 : decode cX7_rest 86 = .ok (.bipush (-4), 2) := by decide +kernel
theorem dX7_rest_88 : decode cX7_rest 88 = .ok (.istore 5, 2) := by decide +kernel
theorem dX7_rest_90 : decode cX7_rest 90 = .ok (.iconst 0, 1) := by decide +kernel
theorem dX7_rest_91 : decode cX7_rest 91 = .ok (.istore 6, 2) := by decide +kernel
theorem dX7_rest_93 : decode cX7_rest 93 = .ok (.iload 6, 2) := by decide +kernel
theorem dX7_rest_95 : decode cX7_rest 95 = .ok (.bipush 100, 2) := by decide +kernel
theorem dX7_rest_97 : decode cX7_rest 97 = .ok (.if_icmp .ge 59, 3) := by decide +kernel
theorem dX7_rest_100 : decode cX7_rest 100 = .ok (.aload_n 0, 1) := by decide +kernel
theorem dX7_rest_101 : decode cX7_rest 101 = .ok (.iload 6, 2) := by decide +kernel
theorem dX7_rest_103 : decode cX7_rest 103 = .ok (.bipush 10, 2) := by decide +kernel
theorem dX7_rest_105 : decode cX7_rest 105 = .ok (.idiv, 1) := by decide +kernel
theorem dX7_rest_106 : decode cX7_rest 106 = .ok (.iload 6, 2) := by decide +kernel
theorem dX7_rest_108 : decode cX7_rest 108 = .ok (.bipush 10, 2) := by decide +kernel
theorem dX7_rest_110 : decode cX7_rest 110 = .ok (.irem, 1) := by decide +kernel
theorem dX7_rest_111 : decode cX7_rest 111 = .ok (.invokevirtual 249, 3) := by decide +kernel
theorem dX7_rest_114 : decode cX7_rest 114 = .ok (.istore 7, 2) := by decide +kernel
theorem dX7_rest_116 : decode cX7_rest 116 = .ok (.iload 7, 2) := by decide +kernel
theorem dX7_rest_118 : decode cX7_rest 118 = .ok (.ifCond .eq 13, 3) := by decide +kernel
theorem dX7_rest_121 : decode cX7_rest 121 = .ok (.iload 4, 2) := by decide +kernel
theorem dX7_rest_123 : decode cX7_rest 123 = .ok (.ifCond .ne 8, 3) := by decide +kernel
theorem dX7_rest_126 : decode cX7_rest 126 = .ok (.iload 6, 2) := by decide +kernel
theorem dX7_rest_128 : decode cX7_rest 128 = .ok (.goto 5, 3) := by decide +kernel
theorem dX7_rest_131 : decode cX7_rest 131 = .ok (.iload 5, 2) := by decide +kernel
theorem dX7_rest_133 : decode cX7_rest 133 = .ok (.istore 5, 2) := by decide +kernel
theorem dX7_rest_135 : decode cX7_rest 135 = .ok (.iload 4, 2) := by decide +kernel
theorem dX7_rest_137 : decode cX7_rest 137 = .ok (.iload 7, 2) := by decide +kernel
theorem dX7_rest_139 : decode cX7_rest 139 = .ok (.ifCond .eq 7, 3) := by decide +kernel
theorem dX7_rest_142 : decode cX7_rest 142 = .ok (.iconst 1, 1) := by decide +kernel
theorem dX7_rest_143 : decode cX7_rest 143 = .ok (.goto 4, 3) := by decide +kernel
theorem dX7_rest_146 : decode cX7_rest 146 = .ok (.iconst 0, 1) := by decide +kernel
theorem dX7_rest_147 : decode cX7_rest 147 = .ok (.iadd, 1) := by decide +kernel
theorem dX7_rest_148 : decode cX7_rest 148 = .ok (.istore 4, 2) := by decide +kernel
theorem dX7_rest_150 : decode cX7_rest 150 = .ok (.iinc 6 1, 3) := by decide +kernel
theorem dX7_rest_153 : decode cX7_rest 153 = .ok (.goto (-60), 3) := by decide +kernel
theorem dX7_rest_156 : decode cX7_rest 156 = .ok (.iload_n 3, 1) := by decide +kernel
theorem dX7_rest_157 : decode cX7_rest 157 = .ok (.ifCond .ne 8, 3) := by decide +kernel
theorem dX7_rest_160 : decode cX7_rest 160 = .ok (.iload 4, 2) := by decide +kernel
theorem dX7_rest_162 : decode cX7_rest 162 = .ok (.goto 5, 3) := by decide +kernel
theorem dX7_rest_165 : decode cX7_rest 165 = .ok (.iload 5, 2) := by decide +kernel
theorem dX7_rest_167 : decode cX7_rest 167 = .ok (.ireturn, 1) := by decide +kernel
set_option maxRecDepth 20000 in
theorem ggX7_share_X7_isSide : GoodIn wsX7_share wsX7_isSide := goodIn_r _ [8, 9, 10, 7, 11] (by decide +kernel) (by decide +kernel)
set_option maxRecDepth 20000 in
theorem gX7_share_X7_isSide : GoodIn wsX7_share (va_wsS RX7 188 yX7_isSide wsX7_isSide) := goodIn_app (goodIn_of _ (by decide +kernel)) ggX7_share_X7_isSide
set_option maxRecDepth 20000 in
theorem ggX7_share_X7_in : GoodIn wsX7_share wsX7_in := goodIn_r _ [11] (by decide +kernel) (by decide +kernel)
set_option maxRecDepth 20000 in
theorem gX7_share_X7_in : GoodIn wsX7_share (va_wsS RX7 52 yX7_in wsX7_in) := goodIn_app (goodIn_of _ (by decide +kernel)) ggX7_share_X7_in
set_option maxRecDepth 20000 in
theorem ggX7_share_X7_isWonBy : GoodIn wsX7_share wsX7_isWonBy := goodIn_r _ [15, 16, 17, 18, 7, 19, 20, 21, 22, 23, 4, 24, 25, 26, 27, 28, 29, 30, 31, 32, 33, 34, 35, 36, 37, 38, 39, 40, 41, 42, 43, 44, 45, 46, 47, 48, 49, 50, 51, 52, 53, 54, 55, 56, 57, 58, 59, 60, 61, 62, 63, 64, 65, 66, 67, 68, 69, 70, 71, 72, 73, 74, 75, 76, 77, 78, 79, 80, 81, 82, 83, 84] (by decide +kernel) (by decide +kernel)
set_option maxRecDepth 20000 in
theorem gX7_share_X7_isWonBy : GoodIn wsX7_share (wsV RX7 237 RX7 yX7_isWonBy wsX7_isWonBy) := goodIn_app (goodIn_of _ (by decide +kernel)) ggX7_share_X7_isWonBy
theorem dX7_share_0 : decode cX7_share 0 = .ok (.iload_n 1, 1) := by decide +kernel
theorem dX7_share_1 : decode cX7_share 1 = .ok (.invokestatic 188, 3) := by decide +kernel
theorem dX7_share_4 : decode cX7_share 4 = .ok (.ifCond .eq 26, 3) := by decide +kernel
theorem dX7_share_7 : decode cX7_share 7 = .ok (.iload_n 2, 1) := by decide +kernel
theorem dX7_share_8 : decode cX7_share 8 = .ok (.ifCond .eq 24, 3) := by decide +kernel
theorem dX7_share_11 : decode cX7_share 11 = .ok (.iload_n 2, 1) := by decide +kernel
theorem dX7_share_12 : decode cX7_share 12 = .ok (.i2l, 1) := by decide +kernel
theorem dX7_share_13 : decode cX7_share 13 = .ok (.ldc2_w 127, 3) := by decide +kernel
theorem dX7_share_16 : decode cX7_share 16 = .ok (.bipush 9, 2) := by decide +kernel
theorem dX7_share_18 : decode cX7_share 18 = .ok (.aload_n 0, 1) := by decide +kernel
theorem dX7_share_19 : decode cX7_share 19 = .ok (.getfield 142, 3) := by decide +kernel
theorem dX7_share_22 : decode cX7_share 22 = .ok (.iadd, 1) := by decide +kernel
theorem dX7_share_23 : decode cX7_share 23 = .ok (.i2l, 1) := by decide +kernel
theorem dX7_share_24 : decode cX7_share 24 = .ok (.invokestatic 52, 3) := by decide +kernel
theorem dX7_share_27 : decode cX7_share 27 = .ok (.ifCond .ne 5, 3) := by decide +kernel
theorem dX7_share_30 : decode cX7_share 30 = .ok (.iconst (-1), 1) := by decide +kernel
theorem dX7_share_31 : decode cX7_share 31 = .ok (.ireturn, 1) := by decide +kernel
theorem dX7_share_32 : decode cX7_share 32 = .ok (.aload_n 0, 1) := by decide +kernel
theorem dX7_share_33 : decode cX7_share 33 = .ok (.getfield 145, 3) := by decide +kernel
theorem dX7_share_36 : decode cX7_share 36 = .ok (.ifCond .ne 6, 3) := by decide +kernel
theorem dX7_share_39 : decode cX7_share 39 = .ok (.bipush (-4), 2) := by decide +kernel
theorem dX7_share_41 : decode cX7_share 41 = .ok (.ireturn, 1) := by decide +kernel
theorem dX7_share_42 : decode cX7_share 42 = .ok (.iconst 0, 1) := by decide +kernel
theorem dX7_share_43 : decode cX7_share 43 = .ok (.istore_n 3, 1) := by decide +kernel
theorem dX7_share_44 : decode cX7_share 44 = .ok (.bipush (-4), 2) := by decide +kernel
theorem dX7_share_46 : decode cX7_share 46 = .ok (.istore 4, 2) := by decide +kernel
theorem dX7_share_48 : decode cX7_share 48 = .ok (.iconst 0, 1) := by decide +kernel
theorem dX7_share_49 : decode cX7_share 49 = .ok (.istore 5, 2) := by decide +kernel
theorem dX7_share_51 : decode cX7_share 51 = .ok (.iload 5, 2) := by decide +kernel
theorem dX7_share_53 : decode cX7_share 53 = .ok (.aload_n 0, 1) := by decide +kernel
theorem dX7_share_54 : decode cX7_share 54 = .ok (.getfield 142, 3) := by decide +kernel
theorem dX7_share_57 : decode cX7_share 57 = .ok (.if_icmp .ge 124, 3) := by decide +kernel
theorem dX7_share_60 : decode cX7_share 60 = .ok (.aload_n 0, 1) := by decide +kernel
theorem dX7_share_61 : decode cX7_share 61 = .ok (.getfield 7, 3) := by decide +kernel
theorem dX7_share_64 : decode cX7_share 64 = .ok (.bipush 24, 2) := by decide +kernel
theorem dX7_share_66 : decode cX7_share 66 = .ok (.iload 5, 2) := by decide +kernel
theorem dX7_share_68 : decode cX7_share 68 = .ok (.iadd, 1) := by decide +kernel
theorem dX7_share_69 : decode cX7_share 69 = .ok (.iaload, 1) := by decide +kernel
theorem dX7_share_70 : decode cX7_share 70 = .ok (.ifCond .eq 8, 3) := by decide +kernel
theorem dX7_share_73 : decode cX7_share 73 = .ok (.bipush (-4), 2) := by decide +kernel
theorem dX7_share_75 : decode cX7_share 75 = .ok (.goto 4, 3) := by decide +kernel
theorem dX7_share_78 : decode cX7_share 78 = .ok (.iconst 0, 1) := by decide +kernel
theorem dX7_share_79 : decode cX7_share 79 = .ok (.istore 6, 2) := by decide +kernel
theorem dX7_share_81 : decode cX7_share 81 = .ok (.aload_n 0, 1) := by decide +kernel
theorem dX7_share_82 : decode cX7_share 82 = .ok (.getfield 145, 3) := by decide +kernel
theorem dX7_share_85 : decode cX7_share 85 = .ok (.iconst 1, 1) := by decide +kernel
theorem dX7_share_86 : decode cX7_share 86 = .ok (.isub, 1) := by decide +kernel
theorem dX7_share_87 : decode cX7_share 87 = .ok (.istore 7, 2) := by decide +kernel
theorem dX7_share_89 : decode cX7_share 89 = .ok (.iload 7, 2) := by decide +kernel
theorem dX7_share_91 : decode cX7_share 91 = .ok (.ifCond .lt 38, 3) := by decide +kernel
theorem dX7_share_94 : decode cX7_share 94 = .ok (.iload 6, 2) := by decide +kernel
theorem dX7_share_96 : decode cX7_share 96 = .ok (.bipush (-4), 2) := by decide +kernel
theorem dX7_share_98 : decode cX7_share 98 = .ok (.if_icmp .eq 31, 3) := by decide +kernel
theorem dX7_share_101 : decode cX7_share 101 = .ok (.aload_n 0, 1) := by decide +kernel
theorem dX7_share_102 : decode cX7_share 102 = .ok (.iconst 0, 1) := by decide +kernel
theorem dX7_share_103 : decode cX7_share 103 = .ok (.iload 5, 2) := by decide +kernel
theorem dX7_share_105 : decode cX7_share 105 = .ok (.iload_n 1, 1) := by decide +kernel
theorem dX7_share_106 : decode cX7_share 106 = .ok (.iload 7, 2) := by decide +kernel
theorem dX7_share_108 : decode cX7_share 108 = .ok (.invokevirtual 237, 3) := by decide +kernel
theorem dX7_share_111 : decode cX7_share 111 = .ok (.ifCond .eq 8, 3) := by decide +kernel
theorem dX7_share_114 : decode cX7_share 114 = .ok (.iload 7, 2) := by decide +kernel
theorem dX7_share_116 : decode cX7_share 116 = .ok (.goto 5, 3) := by decide +kernel
theorem dX7_share_119 : decode cX7_share 119 = .ok (.iload 6, 2) := by decide +kernel
theorem dX7_share_121 : decode cX7_share 121 = .ok (.istore 6, 2) := by decide +kernel
theorem dX7_share_123 : decode cX7_share 123 = .ok (.iinc 7 (-1), 3) := by decide +kernel
theorem dX7_share_126 : decode cX7_share 126 = .ok (.goto (-37), 3) := by decide +kernel
theorem dX7_share_129 : decode cX7_share 129 = .ok (.iload_n 3, 1) := by decide +kernel
theorem dX7_share_130 : decode cX7_share 130 = .ok (.iload 6, 2) := by decide +kernel
theorem dX7_share_132 : decode cX7_share 132 = .ok (.bipush (-4), 2) := by decide +kernel
theorem dX7_share_134 : decode cX7_share 134 = .ok (.if_icmp .eq 20, 3) := by decide +kernel
theorem dX7_share_137 : decode cX7_share 137 = .ok (.aload_n 0, 1) := by decide +kernel
theorem dX7_share_138 : decode cX7_share 138 = .ok (.iconst 0, 1) := by decide +kernel
theorem dX7_share_139 : decode cX7_share 139 = .ok (.iload 5, 2) := by decide +kernel
theorem dX7_share_141 : decode cX7_share 141 = .ok (.iload_n 1, 1) := by decide +kernel
theorem dX7_share_142 : decode cX7_share 142 = .ok (.iload 6, 2) := by decide +kernel
theorem dX7_share_144 : decode cX7_share 144 = .ok (.invokevirtual 237, 3) := by decide +kernel
theorem dX7_share_147 : decode cX7_share 147 = .ok (.ifCond .eq 7, 3) := by decide +kernel
theorem dX7_share_150 : decode cX7_share 150 = .ok (.iconst 1, 1) := by decide +kernel
theorem dX7_share_151 : decode cX7_share 151 = .ok (.goto 4, 3) := by decide +kernel
theorem dX7_share_154 : decode cX7_share 154 = .ok (.iconst 0, 1) := by decide +kernel
theorem dX7_share_155 : decode cX7_share 155 = .ok (.iadd, 1) := by decide +kernel
theorem dX7_share_156 : decode cX7_share 156 = .ok (.istore_n 3, 1) := by decide +kernel
theorem dX7_share_157 : decode cX7_share 157 = .ok (.iload_n 2, 1) := by decide +kernel
theorem dX7_share_158 : decode cX7_share 158 = .ok (.bipush 10, 2) := by decide +kernel
theorem dX7_share_160 : decode cX7_share 160 = .ok (.isub, 1) := by decide +kernel
theorem dX7_share_161 : decode cX7_share 161 = .ok (.iload 5, 2) := by decide +kernel
theorem dX7_share_163 : decode cX7_share 163 = .ok (.if_icmp .ne 8, 3) := by decide +kernel
theorem dX7_share_166 : decode cX7_share 166 = .ok (.iload 6, 2) := by decide +kernel
theorem dX7_share_168 : decode cX7_share 168 = .ok (.goto 5, 3) := by decide +kernel
theorem dX7_share_171 : decode cX7_share 171 = .ok (.iload 4, 2) := by decide +kernel
theorem dX7_share_173 : decode cX7_share 173 = .ok (.istore 4, 2) := by decide +kernel
theorem dX7_share_175 : decode cX7_share 175 = .ok (.iinc 5 1, 3) := by decide +kernel
theorem dX7_share_178 : decode cX7_share 178 = .ok (.goto (-127), 3) := by decide +kernel
theorem dX7_share_181 : decode cX7_share 181 = .ok (.iload_n 2, 1) := by decide +kernel
theorem dX7_share_182 : decode cX7_share 182 = .ok (.ifCond .ne 7, 3) := by decide +kernel
theorem dX7_share_185 : decode cX7_share 185 = .ok (.iload_n 3, 1) := by decide +kernel
theorem dX7_share_186 : decode cX7_share 186 = .ok (.goto 5, 3) := by decide +kernel
theorem dX7_share_189 : decode cX7_share 189 = .ok (.iload 4, 2) := by decide +kernel
theorem dX7_share_191 : decode cX7_share 191 = .ok (.ireturn, 1) := by decide +kernel
theorem dX7_bitsOf_0 : decode cX7_bitsOf 0 = .ok (.iconst 0, 1) := by decide +kernel
theorem dX7_bitsOf_1 : decode cX7_bitsOf 1 = .ok (.istore_n 1, 1) := by decide +kernel
theorem dX7_bitsOf_2 : decode cX7_bitsOf 2 = .ok (.iload_n 0, 1) := by decide +kernel
theorem dX7_bitsOf_3 : decode cX7_bitsOf 3 = .ok (.istore_n 2, 1) := by decide +kernel
theorem dX7_bitsOf_4 : decode cX7_bitsOf 4 = .ok (.iload_n 2, 1) := by decide +kernel
theorem dX7_bitsOf_5 : decode cX7_bitsOf 5 = .ok (.ifCond .le 16, 3) := by decide +kernel
theorem dX7_bitsOf_8 : decode cX7_bitsOf 8 = .ok (.iload_n 1, 1) := by decide +kernel
theorem dX7_bitsOf_9 : decode cX7_bitsOf 9 = .ok (.iload_n 2, 1) := by decide +kernel
theorem dX7_bitsOf_10 : decode cX7_bitsOf 10 = .ok (.iconst 1, 1) := by decide +kernel
theorem dX7_bitsOf_11 : decode cX7_bitsOf 11 = .ok (.iand, 1) := by decide +kernel
theorem dX7_bitsOf_12 : decode cX7_bitsOf 12 = .ok (.iadd, 1) := by decide +kernel
theorem dX7_bitsOf_13 : decode cX7_bitsOf 13 = .ok (.istore_n 1, 1) := by decide +kernel
theorem dX7_bitsOf_14 : decode cX7_bitsOf 14 = .ok (.iload_n 2, 1) := by decide +kernel
theorem dX7_bitsOf_15 : decode cX7_bitsOf 15 = .ok (.iconst 1, 1) := by decide +kernel
theorem dX7_bitsOf_16 : decode cX7_bitsOf 16 = .ok (.ishr, 1) := by decide +kernel
theorem dX7_bitsOf_17 : decode cX7_bitsOf 17 = .ok (.istore_n 2, 1) := by decide +kernel
theorem dX7_bitsOf_18 : decode cX7_bitsOf 18 = .ok (.goto (-14), 3) := by decide +kernel
theorem dX7_bitsOf_21 : decode cX7_bitsOf 21 = .ok (.iload_n 1, 1) := by decide +kernel
theorem dX7_bitsOf_22 : decode cX7_bitsOf 22 = .ok (.ireturn, 1) := by decide +kernel
set_option maxRecDepth 20000 in
theorem ggX7_wonThen_X7_docketGoes : GoodIn wsX7_wonThen wsX7_docketGoes := goodIn_r _ [5, 6, 7, 8, 9, 10, 11, 12, 4, 13, 14, 15, 16, 17, 18, 19, 20, 21, 22, 23, 24, 25, 26, 27, 28, 29, 30, 31, 32, 33, 34, 35, 36, 37, 38, 39, 40, 41, 50, 51, 52, 53, 54, 55, 56, 57, 58, 59, 60, 61, 62, 63, 64, 65, 66, 67, 68, 69, 70, 71, 72, 73, 74, 75, 76, 77, 78, 79, 80, 81, 82, 83, 84, 85] (by decide +kernel) (by decide +kernel)
set_option maxRecDepth 20000 in
theorem gX7_wonThen_X7_docketGoes : GoodIn wsX7_wonThen (wsV RX7 234 RX7 yX7_docketGoes wsX7_docketGoes) := goodIn_app (goodIn_of _ (by decide +kernel)) ggX7_wonThen_X7_docketGoes
set_option maxRecDepth 20000 in
theorem ggX7_wonThen_X7_wonOn : GoodIn wsX7_wonThen wsX7_wonOn := goodIn_r _ [45, 46, 8, 50, 51, 52, 53, 54, 55, 56, 57, 58, 59, 60, 61, 62, 63, 64, 65, 66, 67, 68, 69, 70, 71, 72, 73, 74, 75, 76, 77, 78, 79, 80, 81, 82, 83, 84, 85] (by decide +kernel) (by decide +kernel)
set_option maxRecDepth 20000 in
theorem gX7_wonThen_X7_wonOn : GoodIn wsX7_wonThen (wsV RX7 178 RX7 yX7_wonOn wsX7_wonOn) := goodIn_app (goodIn_of _ (by decide +kernel)) ggX7_wonThen_X7_wonOn
set_option maxRecDepth 20000 in
theorem ggX7_wonThen_X7_bitsOf : GoodIn wsX7_wonThen wsX7_bitsOf := goodIn_r _ [49] (by decide +kernel) (by decide +kernel)
set_option maxRecDepth 20000 in
theorem gX7_wonThen_X7_bitsOf : GoodIn wsX7_wonThen (va_wsS RX7 252 yX7_bitsOf wsX7_bitsOf) := goodIn_app (goodIn_of _ (by decide +kernel)) ggX7_wonThen_X7_bitsOf
theorem dX7_wonThen_0 : decode cX7_wonThen 0 = .ok (.aload_n 0, 1) := by decide +kernel
theorem dX7_wonThen_1 : decode cX7_wonThen 1 = .ok (.iload_n 1, 1) := by decide +kernel
theorem dX7_wonThen_2 : decode cX7_wonThen 2 = .ok (.invokevirtual 234, 3) := by decide +kernel
theorem dX7_wonThen_5 : decode cX7_wonThen 5 = .ok (.aload_n 0, 1) := by decide +kernel
theorem dX7_wonThen_6 : decode cX7_wonThen 6 = .ok (.sipush 272, 3) := by decide +kernel
theorem dX7_wonThen_9 : decode cX7_wonThen 9 = .ok (.iload_n 2, 1) := by decide +kernel
theorem dX7_wonThen_10 : decode cX7_wonThen 10 = .ok (.iconst 1, 1) := by decide +kernel
theorem dX7_wonThen_11 : decode cX7_wonThen 11 = .ok (.iadd, 1) := by decide +kernel
theorem dX7_wonThen_12 : decode cX7_wonThen 12 = .ok (.invokevirtual 178, 3) := by decide +kernel
theorem dX7_wonThen_15 : decode cX7_wonThen 15 = .ok (.invokestatic 252, 3) := by decide +kernel
theorem dX7_wonThen_18 : decode cX7_wonThen 18 = .ok (.ireturn, 1) := by decide +kernel
set_option maxRecDepth 20000 in
theorem ggX7_swap_X7_isSide : GoodIn wsX7_swap wsX7_isSide := goodIn_r _ [5, 6, 7, 4, 8] (by decide +kernel) (by decide +kernel)
set_option maxRecDepth 20000 in
theorem gX7_swap_X7_isSide : GoodIn wsX7_swap (va_wsS RX7 188 yX7_isSide wsX7_isSide) := goodIn_app (goodIn_of _ (by decide +kernel)) ggX7_swap_X7_isSide
set_option maxRecDepth 20000 in
theorem ggX7_swap_X7_in : GoodIn wsX7_swap wsX7_in := goodIn_r _ [8] (by decide +kernel) (by decide +kernel)
set_option maxRecDepth 20000 in
theorem gX7_swap_X7_in : GoodIn wsX7_swap (va_wsS RX7 52 yX7_in wsX7_in) := goodIn_app (goodIn_of _ (by decide +kernel)) ggX7_swap_X7_in
set_option maxRecDepth 20000 in
theorem ggX7_swap_X7_wonThen : GoodIn wsX7_swap wsX7_wonThen := goodIn_r _ [12, 13, 14, 15, 4, 16, 17, 18, 1, 19, 20, 21, 22, 23, 24, 25, 26, 27, 28, 29, 30, 31, 32, 33, 34, 35, 36, 37, 38, 39, 40, 41, 42, 43, 44, 45, 46, 47, 48, 49, 50, 51, 52, 53, 54, 55, 56, 57, 58, 59, 60, 61, 62, 63, 64, 65, 66, 67, 68, 69, 70, 71, 72, 73, 74, 75, 76, 77, 78, 79, 80, 81, 82, 83, 84, 85, 86, 87, 88, 89, 90, 91, 92, 93, 94, 95] (by decide +kernel) (by decide +kernel)
set_option maxRecDepth 20000 in
theorem gX7_swap_X7_wonThen : GoodIn wsX7_swap (wsV RX7 255 RX7 yX7_wonThen wsX7_wonThen) := goodIn_app (goodIn_of _ (by decide +kernel)) ggX7_swap_X7_wonThen
set_option maxRecDepth 20000 in
theorem ggX7_swap_X7_copies : GoodIn wsX7_swap wsX7_copies := goodIn_r _ [23, 1, 60, 61, 62, 63, 64, 65, 66, 67, 68, 69, 70, 71, 72, 73, 74, 75, 76, 77, 78, 79, 80, 81, 82, 83, 84, 85, 86, 87, 88, 89, 90, 91, 92, 93, 94, 95] (by decide +kernel) (by decide +kernel)
set_option maxRecDepth 20000 in
theorem gX7_swap_X7_copies : GoodIn wsX7_swap (wsV RX7 220 RX7 yX7_copies wsX7_copies) := goodIn_app (goodIn_of _ (by decide +kernel)) ggX7_swap_X7_copies
theorem dX7_swap_0 : decode cX7_swap 0 = .ok (.iload_n 1, 1) := by decide +kernel
theorem dX7_swap_1 : decode cX7_swap 1 = .ok (.invokestatic 188, 3) := by decide +kernel
theorem dX7_swap_4 : decode cX7_swap 4 = .ok (.ifCond .eq 13, 3) := by decide +kernel
theorem dX7_swap_7 : decode cX7_swap 7 = .ok (.iload_n 2, 1) := by decide +kernel
theorem dX7_swap_8 : decode cX7_swap 8 = .ok (.i2l, 1) := by decide +kernel
theorem dX7_swap_9 : decode cX7_swap 9 = .ok (.lconst 0, 1) := by decide +kernel
theorem dX7_swap_10 : decode cX7_swap 10 = .ok (.lconst 1, 1) := by decide +kernel
theorem dX7_swap_11 : decode cX7_swap 11 = .ok (.invokestatic 52, 3) := by decide +kernel
theorem dX7_swap_14 : decode cX7_swap 14 = .ok (.ifCond .ne 5, 3) := by decide +kernel
theorem dX7_swap_17 : decode cX7_swap 17 = .ok (.iconst (-1), 1) := by decide +kernel
theorem dX7_swap_18 : decode cX7_swap 18 = .ok (.ireturn, 1) := by decide +kernel
theorem dX7_swap_19 : decode cX7_swap 19 = .ok (.aload_n 0, 1) := by decide +kernel
theorem dX7_swap_20 : decode cX7_swap 20 = .ok (.iconst 0, 1) := by decide +kernel
theorem dX7_swap_21 : decode cX7_swap 21 = .ok (.iload_n 1, 1) := by decide +kernel
theorem dX7_swap_22 : decode cX7_swap 22 = .ok (.invokevirtual 255, 3) := by decide +kernel
theorem dX7_swap_25 : decode cX7_swap 25 = .ok (.istore_n 3, 1) := by decide +kernel
theorem dX7_swap_26 : decode cX7_swap 26 = .ok (.bipush (-4), 2) := by decide +kernel
theorem dX7_swap_28 : decode cX7_swap 28 = .ok (.istore 4, 2) := by decide +kernel
theorem dX7_swap_30 : decode cX7_swap 30 = .ok (.iconst 0, 1) := by decide +kernel
theorem dX7_swap_31 : decode cX7_swap 31 = .ok (.istore 5, 2) := by decide +kernel
theorem dX7_swap_33 : decode cX7_swap 33 = .ok (.iload 5, 2) := by decide +kernel
theorem dX7_swap_35 : decode cX7_swap 35 = .ok (.aload_n 0, 1) := by decide +kernel
theorem dX7_swap_36 : decode cX7_swap 36 = .ok (.getfield 7, 3) := by decide +kernel
theorem dX7_swap_39 : decode cX7_swap 39 = .ok (.bipush 55, 2) := by decide +kernel
theorem dX7_swap_41 : decode cX7_swap 41 = .ok (.iaload, 1) := by decide +kernel
theorem dX7_swap_42 : decode cX7_swap 42 = .ok (.if_icmp .ge 127, 3) := by decide +kernel
theorem dX7_swap_45 : decode cX7_swap 45 = .ok (.iload 5, 2) := by decide +kernel
theorem dX7_swap_47 : decode cX7_swap 47 = .ok (.iconst 1, 1) := by decide +kernel
theorem dX7_swap_48 : decode cX7_swap 48 = .ok (.iadd, 1) := by decide +kernel
theorem dX7_swap_49 : decode cX7_swap 49 = .ok (.istore 6, 2) := by decide +kernel
theorem dX7_swap_51 : decode cX7_swap 51 = .ok (.iload 6, 2) := by decide +kernel
theorem dX7_swap_53 : decode cX7_swap 53 = .ok (.aload_n 0, 1) := by decide +kernel
theorem dX7_swap_54 : decode cX7_swap 54 = .ok (.getfield 7, 3) := by decide +kernel
theorem dX7_swap_57 : decode cX7_swap 57 = .ok (.bipush 55, 2) := by decide +kernel
theorem dX7_swap_59 : decode cX7_swap 59 = .ok (.iaload, 1) := by decide +kernel
theorem dX7_swap_60 : decode cX7_swap 60 = .ok (.if_icmp .ge 103, 3) := by decide +kernel
theorem dX7_swap_63 : decode cX7_swap 63 = .ok (.aload_n 0, 1) := by decide +kernel
theorem dX7_swap_64 : decode cX7_swap 64 = .ok (.iconst 0, 1) := by decide +kernel
theorem dX7_swap_65 : decode cX7_swap 65 = .ok (.sipush 340, 3) := by decide +kernel
theorem dX7_swap_68 : decode cX7_swap 68 = .ok (.invokevirtual 220, 3) := by decide +kernel
theorem dX7_swap_71 : decode cX7_swap 71 = .ok (.aload_n 0, 1) := by decide +kernel
theorem dX7_swap_72 : decode cX7_swap 72 = .ok (.getfield 7, 3) := by decide +kernel
theorem dX7_swap_75 : decode cX7_swap 75 = .ok (.sipush 402, 3) := by decide +kernel
theorem dX7_swap_78 : decode cX7_swap 78 = .ok (.iload 5, 2) := by decide +kernel
theorem dX7_swap_80 : decode cX7_swap 80 = .ok (.iadd, 1) := by decide +kernel
theorem dX7_swap_81 : decode cX7_swap 81 = .ok (.aload_n 0, 1) := by decide +kernel
theorem dX7_swap_82 : decode cX7_swap 82 = .ok (.getfield 7, 3) := by decide +kernel
theorem dX7_swap_85 : decode cX7_swap 85 = .ok (.bipush 62, 2) := by decide +kernel
theorem dX7_swap_87 : decode cX7_swap 87 = .ok (.iload 6, 2) := by decide +kernel
theorem dX7_swap_89 : decode cX7_swap 89 = .ok (.iadd, 1) := by decide +kernel
theorem dX7_swap_90 : decode cX7_swap 90 = .ok (.iaload, 1) := by decide +kernel
theorem dX7_swap_91 : decode cX7_swap 91 = .ok (.iastore, 1) := by decide +kernel
theorem dX7_swap_92 : decode cX7_swap 92 = .ok (.aload_n 0, 1) := by decide +kernel
theorem dX7_swap_93 : decode cX7_swap 93 = .ok (.getfield 7, 3) := by decide +kernel
theorem dX7_swap_96 : decode cX7_swap 96 = .ok (.sipush 402, 3) := by decide +kernel
theorem dX7_swap_99 : decode cX7_swap 99 = .ok (.iload 6, 2) := by decide +kernel
theorem dX7_swap_101 : decode cX7_swap 101 = .ok (.iadd, 1) := by decide +kernel
theorem dX7_swap_102 : decode cX7_swap 102 = .ok (.aload_n 0, 1) := by decide +kernel
theorem dX7_swap_103 : decode cX7_swap 103 = .ok (.getfield 7, 3) := by decide +kernel
theorem dX7_swap_106 : decode cX7_swap 106 = .ok (.bipush 62, 2) := by decide +kernel
theorem dX7_swap_108 : decode cX7_swap 108 = .ok (.iload 5, 2) := by decide +kernel
theorem dX7_swap_110 : decode cX7_swap 110 = .ok (.iadd, 1) := by decide +kernel
theorem dX7_swap_111 : decode cX7_swap 111 = .ok (.iaload, 1) := by decide +kernel
theorem dX7_swap_112 : decode cX7_swap 112 = .ok (.iastore, 1) := by decide +kernel
theorem dX7_swap_113 : decode cX7_swap 113 = .ok (.aload_n 0, 1) := by decide +kernel
theorem dX7_swap_114 : decode cX7_swap 114 = .ok (.sipush 340, 3) := by decide +kernel
theorem dX7_swap_117 : decode cX7_swap 117 = .ok (.iload_n 1, 1) := by decide +kernel
theorem dX7_swap_118 : decode cX7_swap 118 = .ok (.invokevirtual 255, 3) := by decide +kernel
theorem dX7_swap_121 : decode cX7_swap 121 = .ok (.istore 7, 2) := by decide +kernel
theorem dX7_swap_123 : decode cX7_swap 123 = .ok (.iload 7, 2) := by decide +kernel
theorem dX7_swap_125 : decode cX7_swap 125 = .ok (.iload_n 3, 1) := by decide +kernel
theorem dX7_swap_126 : decode cX7_swap 126 = .ok (.if_icmp .le 14, 3) := by decide +kernel
theorem dX7_swap_129 : decode cX7_swap 129 = .ok (.bipush 10, 2) := by decide +kernel
theorem dX7_swap_131 : decode cX7_swap 131 = .ok (.iload 5, 2) := by decide +kernel
theorem dX7_swap_133 : decode cX7_swap 133 = .ok (.imul, 1) := by decide +kernel
theorem dX7_swap_134 : decode cX7_swap 134 = .ok (.iload 6, 2) := by decide +kernel
theorem dX7_swap_136 : decode cX7_swap 136 = .ok (.iadd, 1) := by decide +kernel
theorem dX7_swap_137 : decode cX7_swap 137 = .ok (.goto 5, 3) := by decide +kernel
theorem dX7_swap_140 : decode cX7_swap 140 = .ok (.iload 4, 2) := by decide +kernel
theorem dX7_swap_142 : decode cX7_swap 142 = .ok (.istore 4, 2) := by decide +kernel
theorem dX7_swap_144 : decode cX7_swap 144 = .ok (.iload 7, 2) := by decide +kernel
theorem dX7_swap_146 : decode cX7_swap 146 = .ok (.iload_n 3, 1) := by decide +kernel
theorem dX7_swap_147 : decode cX7_swap 147 = .ok (.if_icmp .le 8, 3) := by decide +kernel
theorem dX7_swap_150 : decode cX7_swap 150 = .ok (.iload 7, 2) := by decide +kernel
theorem dX7_swap_152 : decode cX7_swap 152 = .ok (.goto 4, 3) := by decide +kernel
theorem dX7_swap_155 : decode cX7_swap 155 = .ok (.iload_n 3, 1) := by decide +kernel
theorem dX7_swap_156 : decode cX7_swap 156 = .ok (.istore_n 3, 1) := by decide +kernel
theorem dX7_swap_157 : decode cX7_swap 157 = .ok (.iinc 6 1, 3) := by decide +kernel
theorem dX7_swap_160 : decode cX7_swap 160 = .ok (.goto (-109), 3) := by decide +kernel
theorem dX7_swap_163 : decode cX7_swap 163 = .ok (.iinc 5 1, 3) := by decide +kernel
theorem dX7_swap_166 : decode cX7_swap 166 = .ok (.goto (-133), 3) := by decide +kernel
theorem dX7_swap_169 : decode cX7_swap 169 = .ok (.iload 4, 2) := by decide +kernel
theorem dX7_swap_171 : decode cX7_swap 171 = .ok (.bipush (-4), 2) := by decide +kernel
theorem dX7_swap_173 : decode cX7_swap 173 = .ok (.if_icmp .eq 7, 3) := by decide +kernel
theorem dX7_swap_176 : decode cX7_swap 176 = .ok (.iload_n 2, 1) := by decide +kernel
theorem dX7_swap_177 : decode cX7_swap 177 = .ok (.ifCond .ne 8, 3) := by decide +kernel
theorem dX7_swap_180 : decode cX7_swap 180 = .ok (.iload 4, 2) := by decide +kernel
theorem dX7_swap_182 : decode cX7_swap 182 = .ok (.goto 4, 3) := by decide +kernel
theorem dX7_swap_185 : decode cX7_swap 185 = .ok (.iload_n 3, 1) := by decide +kernel
theorem dX7_swap_186 : decode cX7_swap 186 = .ok (.ireturn, 1) := by decide +kernel
theorem dX7_lowest_0 : decode cX7_lowest 0 = .ok (.lload_n 0, 1) := by decide +kernel
theorem dX7_lowest_1 : decode cX7_lowest 1 = .ok (.lstore 5, 2) := by decide +kernel
theorem dX7_lowest_3 : decode cX7_lowest 3 = .ok (.lload_n 2, 1) := by decide +kernel
theorem dX7_lowest_4 : decode cX7_lowest 4 = .ok (.lstore 7, 2) := by decide +kernel
theorem dX7_lowest_6 : decode cX7_lowest 6 = .ok (.lload 7, 2) := by decide +kernel
theorem dX7_lowest_8 : decode cX7_lowest 8 = .ok (.lconst 0, 1) := by decide +kernel
theorem dX7_lowest_9 : decode cX7_lowest 9 = .ok (.lcmp, 1) := by decide +kernel
theorem dX7_lowest_10 : decode cX7_lowest 10 = .ok (.ifCond .eq 21, 3) := by decide +kernel
theorem dX7_lowest_13 : decode cX7_lowest 13 = .ok (.lload 5, 2) := by decide +kernel
theorem dX7_lowest_15 : decode cX7_lowest 15 = .ok (.lload 7, 2) := by decide +kernel
theorem dX7_lowest_17 : decode cX7_lowest 17 = .ok (.lrem, 1) := by decide +kernel
theorem dX7_lowest_18 : decode cX7_lowest 18 = .ok (.lstore 9, 2) := by decide +kernel
theorem dX7_lowest_20 : decode cX7_lowest 20 = .ok (.lload 7, 2) := by decide +kernel
theorem dX7_lowest_22 : decode cX7_lowest 22 = .ok (.lstore 5, 2) := by decide +kernel
theorem dX7_lowest_24 : decode cX7_lowest 24 = .ok (.lload 9, 2) := by decide +kernel
theorem dX7_lowest_26 : decode cX7_lowest 26 = .ok (.lstore 7, 2) := by decide +kernel
theorem dX7_lowest_28 : decode cX7_lowest 28 = .ok (.goto (-22), 3) := by decide +kernel
theorem dX7_lowest_31 : decode cX7_lowest 31 = .ok (.iload 4, 2) := by decide +kernel
theorem dX7_lowest_33 : decode cX7_lowest 33 = .ok (.ifCond .ne 7, 3) := by decide +kernel
theorem dX7_lowest_36 : decode cX7_lowest 36 = .ok (.lload_n 0, 1) := by decide +kernel
theorem dX7_lowest_37 : decode cX7_lowest 37 = .ok (.goto 4, 3) := by decide +kernel
theorem dX7_lowest_40 : decode cX7_lowest 40 = .ok (.lload_n 2, 1) := by decide +kernel
theorem dX7_lowest_41 : decode cX7_lowest 41 = .ok (.lload 5, 2) := by decide +kernel
theorem dX7_lowest_43 : decode cX7_lowest 43 = .ok (.ldiv, 1) := by decide +kernel
theorem dX7_lowest_44 : decode cX7_lowest 44 = .ok (.lreturn, 1) := by decide +kernel
set_option maxRecDepth 20000 in
theorem ggX7_byAway_X7_wonThen : GoodIn wsX7_byAway wsX7_wonThen := goodIn_r _ [8, 9, 10, 11, 7, 12, 13, 14, 1, 15, 16, 17, 18, 19, 20, 21, 22, 23, 24, 25, 26, 27, 28, 29, 30, 31, 32, 33, 34, 35, 36, 37, 3, 38, 39, 40, 41, 42, 43, 44, 45, 46, 47, 48, 49, 50, 51, 52, 53, 54, 66, 67, 68, 69, 70, 71, 72, 73, 74, 75, 76, 77, 78, 79, 80, 81, 82, 83, 84, 85, 86, 87, 88, 89, 90, 91, 92, 93, 94, 95, 96, 97, 98, 99, 100, 101] (by decide +kernel) (by decide +kernel)
set_option maxRecDepth 20000 in
theorem gX7_byAway_X7_wonThen : GoodIn wsX7_byAway (wsV RX7 255 RX7 yX7_wonThen wsX7_wonThen) := goodIn_app (goodIn_of _ (by decide +kernel)) ggX7_byAway_X7_wonThen
set_option maxRecDepth 20000 in
theorem ggX7_byAway_X7_isWonBy : GoodIn wsX7_byAway wsX7_isWonBy := goodIn_r _ [58, 59, 60, 61, 7, 62, 16, 17, 18, 19, 1, 24, 25, 26, 27, 15, 28, 29, 30, 31, 32, 33, 34, 35, 36, 37, 3, 38, 39, 40, 41, 42, 43, 44, 45, 46, 66, 67, 68, 69, 70, 71, 72, 73, 74, 75, 76, 77, 78, 79, 80, 81, 82, 83, 84, 85, 86, 87, 88, 89, 90, 91, 92, 93, 94, 95, 96, 97, 98, 99, 100, 101] (by decide +kernel) (by decide +kernel)
set_option maxRecDepth 20000 in
theorem gX7_byAway_X7_isWonBy : GoodIn wsX7_byAway (wsV RX7 237 RX7 yX7_isWonBy wsX7_isWonBy) := goodIn_app (goodIn_of _ (by decide +kernel)) ggX7_byAway_X7_isWonBy
set_option maxRecDepth 20000 in
theorem ggX7_byAway_X7_lowest : GoodIn wsX7_byAway wsX7_lowest := goodIn_r _ [65] (by decide +kernel) (by decide +kernel)
set_option maxRecDepth 20000 in
theorem gX7_byAway_X7_lowest : GoodIn wsX7_byAway (va_wsS RX7 258 yX7_lowest wsX7_lowest) := goodIn_app (goodIn_of _ (by decide +kernel)) ggX7_byAway_X7_lowest
theorem dX7_byAway_0 : decode cX7_byAway 0 = .ok (.lconst 0, 1) := by decide +kernel
theorem dX7_byAway_1 : decode cX7_byAway 1 = .ok (.lstore 6, 2) := by decide +kernel
theorem dX7_byAway_3 : decode cX7_byAway 3 = .ok (.lconst 1, 1) := by decide +kernel
theorem dX7_byAway_4 : decode cX7_byAway 4 = .ok (.lstore 8, 2) := by decide +kernel
theorem dX7_byAway_6 : decode cX7_byAway 6 = .ok (.iconst 0, 1) := by decide +kernel
theorem dX7_byAway_7 : decode cX7_byAway 7 = .ok (.istore 10, 2) := by decide +kernel
theorem dX7_byAway_9 : decode cX7_byAway 9 = .ok (.iload 10, 2) := by decide +kernel
theorem dX7_byAway_11 : decode cX7_byAway 11 = .ok (.aload_n 0, 1) := by decide +kernel
theorem dX7_byAway_12 : decode cX7_byAway 12 = .ok (.getfield 7, 3) := by decide +kernel
theorem dX7_byAway_15 : decode cX7_byAway 15 = .ok (.bipush 46, 2) := by decide +kernel
theorem dX7_byAway_17 : decode cX7_byAway 17 = .ok (.iaload, 1) := by decide +kernel
theorem dX7_byAway_18 : decode cX7_byAway 18 = .ok (.if_icmp .ge 17, 3) := by decide +kernel
theorem dX7_byAway_21 : decode cX7_byAway 21 = .ok (.lload 8, 2) := by decide +kernel
theorem dX7_byAway_23 : decode cX7_byAway 23 = .ok (.ldc2_w 127, 3) := by decide +kernel
theorem dX7_byAway_26 : decode cX7_byAway 26 = .ok (.lmul, 1) := by decide +kernel
theorem dX7_byAway_27 : decode cX7_byAway 27 = .ok (.lstore 8, 2) := by decide +kernel
theorem dX7_byAway_29 : decode cX7_byAway 29 = .ok (.iinc 10 1, 3) := by decide +kernel
theorem dX7_byAway_32 : decode cX7_byAway 32 = .ok (.goto (-23), 3) := by decide +kernel
theorem dX7_byAway_35 : decode cX7_byAway 35 = .ok (.iconst 0, 1) := by decide +kernel
theorem dX7_byAway_36 : decode cX7_byAway 36 = .ok (.istore 10, 2) := by decide +kernel
theorem dX7_byAway_38 : decode cX7_byAway 38 = .ok (.iload 10, 2) := by decide +kernel
theorem dX7_byAway_40 : decode cX7_byAway 40 = .ok (.iconst 1, 1) := by decide +kernel
theorem dX7_byAway_41 : decode cX7_byAway 41 = .ok (.aload_n 0, 1) := by decide +kernel
theorem dX7_byAway_42 : decode cX7_byAway 42 = .ok (.getfield 7, 3) := by decide +kernel
theorem dX7_byAway_45 : decode cX7_byAway 45 = .ok (.bipush 46, 2) := by decide +kernel
theorem dX7_byAway_47 : decode cX7_byAway 47 = .ok (.iaload, 1) := by decide +kernel
theorem dX7_byAway_48 : decode cX7_byAway 48 = .ok (.ishl, 1) := by decide +kernel
theorem dX7_byAway_49 : decode cX7_byAway 49 = .ok (.if_icmp .ge 106, 3) := by decide +kernel
theorem dX7_byAway_52 : decode cX7_byAway 52 = .ok (.lconst 1, 1) := by decide +kernel
theorem dX7_byAway_53 : decode cX7_byAway 53 = .ok (.lstore 11, 2) := by decide +kernel
theorem dX7_byAway_55 : decode cX7_byAway 55 = .ok (.iconst 0, 1) := by decide +kernel
theorem dX7_byAway_56 : decode cX7_byAway 56 = .ok (.istore 13, 2) := by decide +kernel
theorem dX7_byAway_58 : decode cX7_byAway 58 = .ok (.iload 13, 2) := by decide +kernel
theorem dX7_byAway_60 : decode cX7_byAway 60 = .ok (.aload_n 0, 1) := by decide +kernel
theorem dX7_byAway_61 : decode cX7_byAway 61 = .ok (.getfield 7, 3) := by decide +kernel
theorem dX7_byAway_64 : decode cX7_byAway 64 = .ok (.bipush 46, 2) := by decide +kernel
theorem dX7_byAway_66 : decode cX7_byAway 66 = .ok (.iaload, 1) := by decide +kernel
theorem dX7_byAway_67 : decode cX7_byAway 67 = .ok (.if_icmp .ge 35, 3) := by decide +kernel
theorem dX7_byAway_70 : decode cX7_byAway 70 = .ok (.lload 11, 2) := by decide +kernel
theorem dX7_byAway_72 : decode cX7_byAway 72 = .ok (.iload 10, 2) := by decide +kernel
theorem dX7_byAway_74 : decode cX7_byAway 74 = .ok (.iload 13, 2) := by decide +kernel
theorem dX7_byAway_76 : decode cX7_byAway 76 = .ok (.ishr, 1) := by decide +kernel
theorem dX7_byAway_77 : decode cX7_byAway 77 = .ok (.iconst 1, 1) := by decide +kernel
theorem dX7_byAway_78 : decode cX7_byAway 78 = .ok (.iand, 1) := by decide +kernel
theorem dX7_byAway_79 : decode cX7_byAway 79 = .ok (.iconst 1, 1) := by decide +kernel
theorem dX7_byAway_80 : decode cX7_byAway 80 = .ok (.if_icmp .ne 8, 3) := by decide +kernel
theorem dX7_byAway_83 : decode cX7_byAway 83 = .ok (.iload_n 1, 1) := by decide +kernel
theorem dX7_byAway_84 : decode cX7_byAway 84 = .ok (.i2l, 1) := by decide +kernel
theorem dX7_byAway_85 : decode cX7_byAway 85 = .ok (.goto 8, 3) := by decide +kernel
theorem dX7_byAway_88 : decode cX7_byAway 88 = .ok (.bipush 10, 2) := by decide +kernel
theorem dX7_byAway_90 : decode cX7_byAway 90 = .ok (.iload_n 1, 1) := by decide +kernel
theorem dX7_byAway_91 : decode cX7_byAway 91 = .ok (.isub, 1) := by decide +kernel
theorem dX7_byAway_92 : decode cX7_byAway 92 = .ok (.i2l, 1) := by decide +kernel
theorem dX7_byAway_93 : decode cX7_byAway 93 = .ok (.lmul, 1) := by decide +kernel
theorem dX7_byAway_94 : decode cX7_byAway 94 = .ok (.lstore 11, 2) := by decide +kernel
theorem dX7_byAway_96 : decode cX7_byAway 96 = .ok (.iinc 13 1, 3) := by decide +kernel
theorem dX7_byAway_99 : decode cX7_byAway 99 = .ok (.goto (-41), 3) := by decide +kernel
theorem dX7_byAway_102 : decode cX7_byAway 102 = .ok (.aload_n 0, 1) := by decide +kernel
theorem dX7_byAway_103 : decode cX7_byAway 103 = .ok (.iload 10, 2) := by decide +kernel
theorem dX7_byAway_105 : decode cX7_byAway 105 = .ok (.putfield 157, 3) := by decide +kernel
theorem dX7_byAway_108 : decode cX7_byAway 108 = .ok (.lload 6, 2) := by decide +kernel
theorem dX7_byAway_110 : decode cX7_byAway 110 = .ok (.lload 11, 2) := by decide +kernel
theorem dX7_byAway_112 : decode cX7_byAway 112 = .ok (.iload_n 2, 1) := by decide +kernel
theorem dX7_byAway_113 : decode cX7_byAway 113 = .ok (.bipush (-4), 2) := by decide +kernel
theorem dX7_byAway_115 : decode cX7_byAway 115 = .ok (.if_icmp .ne 12, 3) := by decide +kernel
theorem dX7_byAway_118 : decode cX7_byAway 118 = .ok (.aload_n 0, 1) := by decide +kernel
theorem dX7_byAway_119 : decode cX7_byAway 119 = .ok (.iconst 0, 1) := by decide +kernel
theorem dX7_byAway_120 : decode cX7_byAway 120 = .ok (.iload_n 3, 1) := by decide +kernel
theorem dX7_byAway_121 : decode cX7_byAway 121 = .ok (.invokevirtual 255, 3) := by decide +kernel
theorem dX7_byAway_124 : decode cX7_byAway 124 = .ok (.goto 20, 3) := by decide +kernel
theorem dX7_byAway_127 : decode cX7_byAway 127 = .ok (.aload_n 0, 1) := by decide +kernel
theorem dX7_byAway_128 : decode cX7_byAway 128 = .ok (.iconst 0, 1) := by decide +kernel
theorem dX7_byAway_129 : decode cX7_byAway 129 = .ok (.iload_n 2, 1) := by decide +kernel
theorem dX7_byAway_130 : decode cX7_byAway 130 = .ok (.iload_n 3, 1) := by decide +kernel
theorem dX7_byAway_131 : decode cX7_byAway 131 = .ok (.iload 4, 2) := by decide +kernel
theorem dX7_byAway_133 : decode cX7_byAway 133 = .ok (.invokevirtual 237, 3) := by decide +kernel
theorem dX7_byAway_136 : decode cX7_byAway 136 = .ok (.ifCond .eq 7, 3) := by decide +kernel
theorem dX7_byAway_139 : decode cX7_byAway 139 = .ok (.iconst 1, 1) := by decide +kernel
theorem dX7_byAway_140 : decode cX7_byAway 140 = .ok (.goto 4, 3) := by decide +kernel
theorem dX7_byAway_143 : decode cX7_byAway 143 = .ok (.iconst 0, 1) := by decide +kernel
theorem dX7_byAway_144 : decode cX7_byAway 144 = .ok (.i2l, 1) := by decide +kernel
theorem dX7_byAway_145 : decode cX7_byAway 145 = .ok (.lmul, 1) := by decide +kernel
theorem dX7_byAway_146 : decode cX7_byAway 146 = .ok (.ladd, 1) := by decide +kernel
theorem dX7_byAway_147 : decode cX7_byAway 147 = .ok (.lstore 6, 2) := by decide +kernel
theorem dX7_byAway_149 : decode cX7_byAway 149 = .ok (.iinc 10 1, 3) := by decide +kernel
theorem dX7_byAway_152 : decode cX7_byAway 152 = .ok (.goto (-114), 3) := by decide +kernel
theorem dX7_byAway_155 : decode cX7_byAway 155 = .ok (.aload_n 0, 1) := by decide +kernel
theorem dX7_byAway_156 : decode cX7_byAway 156 = .ok (.iconst 0, 1) := by decide +kernel
theorem dX7_byAway_157 : decode cX7_byAway 157 = .ok (.putfield 157, 3) := by decide +kernel
theorem dX7_byAway_160 : decode cX7_byAway 160 = .ok (.lload 6, 2) := by decide +kernel
theorem dX7_byAway_162 : decode cX7_byAway 162 = .ok (.lload 8, 2) := by decide +kernel
theorem dX7_byAway_164 : decode cX7_byAway 164 = .ok (.iload 5, 2) := by decide +kernel
theorem dX7_byAway_166 : decode cX7_byAway 166 = .ok (.invokestatic 258, 3) := by decide +kernel
theorem dX7_byAway_169 : decode cX7_byAway 169 = .ok (.lreturn, 1) := by decide +kernel
set_option maxRecDepth 20000 in
theorem ggX7_luck_X7_in : GoodIn wsX7_luck wsX7_in := goodIn_r _ [6] (by decide +kernel) (by decide +kernel)
set_option maxRecDepth 20000 in
theorem gX7_luck_X7_in : GoodIn wsX7_luck (va_wsS RX7 52 yX7_in wsX7_in) := goodIn_app (goodIn_of _ (by decide +kernel)) ggX7_luck_X7_in
set_option maxRecDepth 20000 in
theorem ggX7_luck_X7_isHeard : GoodIn wsX7_luck wsX7_isHeard := goodIn_r _ [10, 11, 12, 13, 5, 14, 15, 3, 4, 6, 16, 17, 18, 19, 20, 90, 91, 92, 93, 94, 95, 96, 97, 98, 99, 100, 101, 102, 103, 104, 105, 106, 107, 108, 109, 110, 111, 112, 113, 114, 115, 116, 117, 118, 119, 120, 121, 122, 123, 124, 125] (by decide +kernel) (by decide +kernel)
set_option maxRecDepth 20000 in
theorem gX7_luck_X7_isHeard : GoodIn wsX7_luck (wsV RX7 207 RX7 yX7_isHeard wsX7_isHeard) := goodIn_app (goodIn_of _ (by decide +kernel)) ggX7_luck_X7_isHeard
set_option maxRecDepth 20000 in
theorem ggX7_luck_X7_isSide : GoodIn wsX7_luck wsX7_isSide := goodIn_r _ [23, 3, 4, 5, 6] (by decide +kernel) (by decide +kernel)
set_option maxRecDepth 20000 in
theorem gX7_luck_X7_isSide : GoodIn wsX7_luck (va_wsS RX7 188 yX7_isSide wsX7_isSide) := goodIn_app (goodIn_of _ (by decide +kernel)) ggX7_luck_X7_isSide
set_option maxRecDepth 20000 in
theorem ggX7_luck_X7_byAway : GoodIn wsX7_luck wsX7_byAway := goodIn_r _ [27, 28, 1, 29, 30, 31, 32, 5, 33, 34, 35, 36, 37, 38, 39, 40, 41, 42, 43, 44, 45, 46, 47, 48, 49, 50, 51, 52, 53, 54, 55, 56, 57, 58, 59, 60, 61, 62, 63, 64, 65, 66, 67, 68, 69, 70, 71, 72, 73, 74, 75, 15, 76, 77, 78, 79, 80, 81, 82, 83, 84, 85, 86, 87, 88, 89, 90, 91, 92, 93, 94, 95, 96, 97, 98, 99, 100, 101, 102, 103, 104, 105, 106, 107, 108, 109, 110, 111, 112, 113, 114, 115, 116, 117, 118, 119, 120, 121, 122, 123, 124, 125] (by decide +kernel) (by decide +kernel)
set_option maxRecDepth 20000 in
theorem gX7_luck_X7_byAway : GoodIn wsX7_luck (wsV RX7 262 RX7 yX7_byAway wsX7_byAway) := goodIn_app (goodIn_of _ (by decide +kernel)) ggX7_luck_X7_byAway
theorem dX7_luck_0 : decode cX7_luck 0 = .ok (.iload_n 1, 1) := by decide +kernel
theorem dX7_luck_1 : decode cX7_luck 1 = .ok (.i2l, 1) := by decide +kernel
theorem dX7_luck_2 : decode cX7_luck 2 = .ok (.lconst 0, 1) := by decide +kernel
theorem dX7_luck_3 : decode cX7_luck 3 = .ok (.ldc2_w 127, 3) := by decide +kernel
theorem dX7_luck_6 : decode cX7_luck 6 = .ok (.invokestatic 52, 3) := by decide +kernel
theorem dX7_luck_9 : decode cX7_luck 9 = .ok (.ifCond .eq 45, 3) := by decide +kernel
theorem dX7_luck_12 : decode cX7_luck 12 = .ok (.aload_n 0, 1) := by decide +kernel
theorem dX7_luck_13 : decode cX7_luck 13 = .ok (.iload_n 2, 1) := by decide +kernel
theorem dX7_luck_14 : decode cX7_luck 14 = .ok (.iload 4, 2) := by decide +kernel
theorem dX7_luck_16 : decode cX7_luck 16 = .ok (.invokevirtual 207, 3) := by decide +kernel
theorem dX7_luck_19 : decode cX7_luck 19 = .ok (.ifCond .eq 35, 3) := by decide +kernel
theorem dX7_luck_22 : decode cX7_luck 22 = .ok (.iload_n 3, 1) := by decide +kernel
theorem dX7_luck_23 : decode cX7_luck 23 = .ok (.invokestatic 188, 3) := by decide +kernel
theorem dX7_luck_26 : decode cX7_luck 26 = .ok (.ifCond .eq 28, 3) := by decide +kernel
theorem dX7_luck_29 : decode cX7_luck 29 = .ok (.iload 5, 2) := by decide +kernel
theorem dX7_luck_31 : decode cX7_luck 31 = .ok (.i2l, 1) := by decide +kernel
theorem dX7_luck_32 : decode cX7_luck 32 = .ok (.lconst 0, 1) := by decide +kernel
theorem dX7_luck_33 : decode cX7_luck 33 = .ok (.lconst 1, 1) := by decide +kernel
theorem dX7_luck_34 : decode cX7_luck 34 = .ok (.invokestatic 52, 3) := by decide +kernel
theorem dX7_luck_37 : decode cX7_luck 37 = .ok (.ifCond .eq 17, 3) := by decide +kernel
theorem dX7_luck_40 : decode cX7_luck 40 = .ok (.aload_n 0, 1) := by decide +kernel
theorem dX7_luck_41 : decode cX7_luck 41 = .ok (.iload_n 1, 1) := by decide +kernel
theorem dX7_luck_42 : decode cX7_luck 42 = .ok (.iload_n 2, 1) := by decide +kernel
theorem dX7_luck_43 : decode cX7_luck 43 = .ok (.iload_n 3, 1) := by decide +kernel
theorem dX7_luck_44 : decode cX7_luck 44 = .ok (.iload 4, 2) := by decide +kernel
theorem dX7_luck_46 : decode cX7_luck 46 = .ok (.iload 5, 2) := by decide +kernel
theorem dX7_luck_48 : decode cX7_luck 48 = .ok (.invokevirtual 262, 3) := by decide +kernel
theorem dX7_luck_51 : decode cX7_luck 51 = .ok (.goto 6, 3) := by decide +kernel
theorem dX7_luck_54 : decode cX7_luck 54 = .ok (.ldc2_w 266, 3) := by decide +kernel
theorem dX7_luck_57 : decode cX7_luck 57 = .ok (.lreturn, 1) := by decide +kernel
set_option maxRecDepth 20000 in
theorem ggX7_mean_X7_in : GoodIn wsX7_mean wsX7_in := goodIn_r _ [6] (by decide +kernel) (by decide +kernel)
set_option maxRecDepth 20000 in
theorem gX7_mean_X7_in : GoodIn wsX7_mean (va_wsS RX7 52 yX7_in wsX7_in) := goodIn_app (goodIn_of _ (by decide +kernel)) ggX7_mean_X7_in
set_option maxRecDepth 20000 in
theorem ggX7_mean_X7_isSide : GoodIn wsX7_mean wsX7_isSide := goodIn_r _ [9, 3, 4, 5, 6] (by decide +kernel) (by decide +kernel)
set_option maxRecDepth 20000 in
theorem gX7_mean_X7_isSide : GoodIn wsX7_mean (va_wsS RX7 188 yX7_isSide wsX7_isSide) := goodIn_app (goodIn_of _ (by decide +kernel)) ggX7_mean_X7_isSide
set_option maxRecDepth 20000 in
theorem ggX7_mean_X7_byAway : GoodIn wsX7_mean wsX7_byAway := goodIn_r _ [13, 14, 1, 15, 16, 17, 18, 5, 19, 20, 21, 22, 23, 24, 25, 26, 27, 28, 29, 30, 31, 32, 33, 34, 35, 36, 37, 38, 39, 40, 41, 42, 43, 44, 45, 46, 47, 48, 49, 50, 51, 52, 53, 54, 55, 56, 57, 58, 59, 60, 61, 62, 63, 64, 65, 66, 67, 68, 69, 70, 71, 72, 73, 74, 75, 76, 77, 78, 79, 80, 81, 82, 83, 84, 85, 86, 87, 88, 89, 90, 91, 92, 93, 94, 95, 96, 97, 98, 99, 100, 101, 102, 103, 104, 105, 106, 107, 108, 109, 110, 111, 112] (by decide +kernel) (by decide +kernel)
set_option maxRecDepth 20000 in
theorem gX7_mean_X7_byAway : GoodIn wsX7_mean (wsV RX7 262 RX7 yX7_byAway wsX7_byAway) := goodIn_app (goodIn_of _ (by decide +kernel)) ggX7_mean_X7_byAway
theorem dX7_mean_0 : decode cX7_mean 0 = .ok (.iload_n 1, 1) := by decide +kernel
theorem dX7_mean_1 : decode cX7_mean 1 = .ok (.i2l, 1) := by decide +kernel
theorem dX7_mean_2 : decode cX7_mean 2 = .ok (.lconst 0, 1) := by decide +kernel
theorem dX7_mean_3 : decode cX7_mean 3 = .ok (.ldc2_w 127, 3) := by decide +kernel
theorem dX7_mean_6 : decode cX7_mean 6 = .ok (.invokestatic 52, 3) := by decide +kernel
theorem dX7_mean_9 : decode cX7_mean 9 = .ok (.ifCond .eq 34, 3) := by decide +kernel
theorem dX7_mean_12 : decode cX7_mean 12 = .ok (.iload_n 2, 1) := by decide +kernel
theorem dX7_mean_13 : decode cX7_mean 13 = .ok (.invokestatic 188, 3) := by decide +kernel
theorem dX7_mean_16 : decode cX7_mean 16 = .ok (.ifCond .eq 27, 3) := by decide +kernel
theorem dX7_mean_19 : decode cX7_mean 19 = .ok (.iload_n 3, 1) := by decide +kernel
theorem dX7_mean_20 : decode cX7_mean 20 = .ok (.i2l, 1) := by decide +kernel
theorem dX7_mean_21 : decode cX7_mean 21 = .ok (.lconst 0, 1) := by decide +kernel
theorem dX7_mean_22 : decode cX7_mean 22 = .ok (.lconst 1, 1) := by decide +kernel
theorem dX7_mean_23 : decode cX7_mean 23 = .ok (.invokestatic 52, 3) := by decide +kernel
theorem dX7_mean_26 : decode cX7_mean 26 = .ok (.ifCond .eq 17, 3) := by decide +kernel
theorem dX7_mean_29 : decode cX7_mean 29 = .ok (.aload_n 0, 1) := by decide +kernel
theorem dX7_mean_30 : decode cX7_mean 30 = .ok (.iload_n 1, 1) := by decide +kernel
theorem dX7_mean_31 : decode cX7_mean 31 = .ok (.bipush (-4), 2) := by decide +kernel
theorem dX7_mean_33 : decode cX7_mean 33 = .ok (.iload_n 2, 1) := by decide +kernel
theorem dX7_mean_34 : decode cX7_mean 34 = .ok (.bipush (-4), 2) := by decide +kernel
theorem dX7_mean_36 : decode cX7_mean 36 = .ok (.iload_n 3, 1) := by decide +kernel
theorem dX7_mean_37 : decode cX7_mean 37 = .ok (.invokevirtual 262, 3) := by decide +kernel
theorem dX7_mean_40 : decode cX7_mean 40 = .ok (.goto 6, 3) := by decide +kernel
theorem dX7_mean_43 : decode cX7_mean 43 = .ok (.ldc2_w 266, 3) := by decide +kernel
theorem dX7_mean_46 : decode cX7_mean 46 = .ok (.lreturn, 1) := by decide +kernel
set_option maxRecDepth 20000 in
theorem ggX7_see_X7_isHeard : GoodIn wsX7_see wsX7_isHeard := goodIn_r _ [8, 9, 10, 11, 7, 12, 13, 14, 15, 16, 17, 18, 19, 20, 21, 22, 23, 24, 25, 26, 27, 28, 29, 30, 31, 32, 33, 34, 35, 36, 37, 38, 39, 40, 41, 42, 43, 44, 45, 46, 47, 48, 49, 50, 51, 52, 53, 54, 55, 56, 57] (by decide +kernel) (by decide +kernel)
set_option maxRecDepth 20000 in
theorem gX7_see_X7_isHeard : GoodIn wsX7_see (wsV RX7 207 RX7 yX7_isHeard wsX7_isHeard) := goodIn_app (goodIn_of _ (by decide +kernel)) ggX7_see_X7_isHeard
set_option maxRecDepth 20000 in
theorem ggX7_see_X7_in : GoodIn wsX7_see wsX7_in := goodIn_r _ [16] (by decide +kernel) (by decide +kernel)
set_option maxRecDepth 20000 in
theorem gX7_see_X7_in : GoodIn wsX7_see (va_wsS RX7 52 yX7_in wsX7_in) := goodIn_app (goodIn_of _ (by decide +kernel)) ggX7_see_X7_in
theorem dX7_see_0 : decode cX7_see 0 = .ok (.aload_n 0, 1) := by decide +kernel
theorem dX7_see_1 : decode cX7_see 1 = .ok (.iload_n 1, 1) := by decide +kernel
theorem dX7_see_2 : decode cX7_see 2 = .ok (.iload_n 2, 1) := by decide +kernel
theorem dX7_see_3 : decode cX7_see 3 = .ok (.invokevirtual 207, 3) := by decide +kernel
theorem dX7_see_6 : decode cX7_see 6 = .ok (.ifCond .eq 15, 3) := by decide +kernel
theorem dX7_see_9 : decode cX7_see 9 = .ok (.iload_n 3, 1) := by decide +kernel
theorem dX7_see_10 : decode cX7_see 10 = .ok (.i2l, 1) := by decide +kernel
theorem dX7_see_11 : decode cX7_see 11 = .ok (.lconst 1, 1) := by decide +kernel
theorem dX7_see_12 : decode cX7_see 12 = .ok (.ldc2_w 101, 3) := by decide +kernel
theorem dX7_see_15 : decode cX7_see 15 = .ok (.invokestatic 52, 3) := by decide +kernel
theorem dX7_see_18 : decode cX7_see 18 = .ok (.ifCond .ne 5, 3) := by decide +kernel
theorem dX7_see_21 : decode cX7_see 21 = .ok (.iconst (-1), 1) := by decide +kernel
theorem dX7_see_22 : decode cX7_see 22 = .ok (.ireturn, 1) := by decide +kernel
theorem dX7_see_23 : decode cX7_see 23 = .ok (.aload_n 0, 1) := by decide +kernel
theorem dX7_see_24 : decode cX7_see 24 = .ok (.getfield 148, 3) := by decide +kernel
theorem dX7_see_27 : decode cX7_see 27 = .ok (.bipush 6, 2) := by decide +kernel
theorem dX7_see_29 : decode cX7_see 29 = .ok (.if_icmp .ne 6, 3) := by decide +kernel
theorem dX7_see_32 : decode cX7_see 32 = .ok (.bipush (-3), 2) := by decide +kernel
theorem dX7_see_34 : decode cX7_see 34 = .ok (.ireturn, 1) := by decide +kernel
theorem dX7_see_35 : decode cX7_see 35 = .ok (.aload_n 0, 1) := by decide +kernel
theorem dX7_see_36 : decode cX7_see 36 = .ok (.getfield 31, 3) := by decide +kernel
theorem dX7_see_39 : decode cX7_see 39 = .ok (.iconst 3, 1) := by decide +kernel
theorem dX7_see_40 : decode cX7_see 40 = .ok (.aload_n 0, 1) := by decide +kernel
theorem dX7_see_41 : decode cX7_see 41 = .ok (.getfield 148, 3) := by decide +kernel
theorem dX7_see_44 : decode cX7_see 44 = .ok (.imul, 1) := by decide +kernel
theorem dX7_see_45 : decode cX7_see 45 = .ok (.iload_n 1, 1) := by decide +kernel
theorem dX7_see_46 : decode cX7_see 46 = .ok (.iastore, 1) := by decide +kernel
theorem dX7_see_47 : decode cX7_see 47 = .ok (.aload_n 0, 1) := by decide +kernel
theorem dX7_see_48 : decode cX7_see 48 = .ok (.getfield 31, 3) := by decide +kernel
theorem dX7_see_51 : decode cX7_see 51 = .ok (.iconst 3, 1) := by decide +kernel
theorem dX7_see_52 : decode cX7_see 52 = .ok (.aload_n 0, 1) := by decide +kernel
theorem dX7_see_53 : decode cX7_see 53 = .ok (.getfield 148, 3) := by decide +kernel
theorem dX7_see_56 : decode cX7_see 56 = .ok (.imul, 1) := by decide +kernel
theorem dX7_see_57 : decode cX7_see 57 = .ok (.iconst 1, 1) := by decide +kernel
theorem dX7_see_58 : decode cX7_see 58 = .ok (.iadd, 1) := by decide +kernel
theorem dX7_see_59 : decode cX7_see 59 = .ok (.iload_n 2, 1) := by decide +kernel
theorem dX7_see_60 : decode cX7_see 60 = .ok (.iastore, 1) := by decide +kernel
theorem dX7_see_61 : decode cX7_see 61 = .ok (.aload_n 0, 1) := by decide +kernel
theorem dX7_see_62 : decode cX7_see 62 = .ok (.getfield 31, 3) := by decide +kernel
theorem dX7_see_65 : decode cX7_see 65 = .ok (.iconst 3, 1) := by decide +kernel
theorem dX7_see_66 : decode cX7_see 66 = .ok (.aload_n 0, 1) := by decide +kernel
theorem dX7_see_67 : decode cX7_see 67 = .ok (.getfield 148, 3) := by decide +kernel
theorem dX7_see_70 : decode cX7_see 70 = .ok (.imul, 1) := by decide +kernel
theorem dX7_see_71 : decode cX7_see 71 = .ok (.iconst 2, 1) := by decide +kernel
theorem dX7_see_72 : decode cX7_see 72 = .ok (.iadd, 1) := by decide +kernel
theorem dX7_see_73 : decode cX7_see 73 = .ok (.iload_n 3, 1) := by decide +kernel
theorem dX7_see_74 : decode cX7_see 74 = .ok (.iastore, 1) := by decide +kernel
theorem dX7_see_75 : decode cX7_see 75 = .ok (.aload_n 0, 1) := by decide +kernel
theorem dX7_see_76 : decode cX7_see 76 = .ok (.dup, 1) := by decide +kernel
theorem dX7_see_77 : decode cX7_see 77 = .ok (.getfield 148, 3) := by decide +kernel
theorem dX7_see_80 : decode cX7_see 80 = .ok (.iconst 1, 1) := by decide +kernel
theorem dX7_see_81 : decode cX7_see 81 = .ok (.iadd, 1) := by decide +kernel
theorem dX7_see_82 : decode cX7_see 82 = .ok (.putfield 148, 3) := by decide +kernel
theorem dX7_see_85 : decode cX7_see 85 = .ok (.aload_n 0, 1) := by decide +kernel
theorem dX7_see_86 : decode cX7_see 86 = .ok (.getfield 148, 3) := by decide +kernel
theorem dX7_see_89 : decode cX7_see 89 = .ok (.ireturn, 1) := by decide +kernel
set_option maxRecDepth 20000 in
theorem ggX7_forget_X7_in : GoodIn wsX7_forget wsX7_in := goodIn_r _ [5] (by decide +kernel) (by decide +kernel)
set_option maxRecDepth 20000 in
theorem gX7_forget_X7_in : GoodIn wsX7_forget (va_wsS RX7 52 yX7_in wsX7_in) := goodIn_app (goodIn_of _ (by decide +kernel)) ggX7_forget_X7_in
theorem dX7_forget_0 : decode cX7_forget 0 = .ok (.iload_n 1, 1) := by decide +kernel
theorem dX7_forget_1 : decode cX7_forget 1 = .ok (.i2l, 1) := by decide +kernel
theorem dX7_forget_2 : decode cX7_forget 2 = .ok (.lconst 0, 1) := by decide +kernel
theorem dX7_forget_3 : decode cX7_forget 3 = .ok (.aload_n 0, 1) := by decide +kernel
theorem dX7_forget_4 : decode cX7_forget 4 = .ok (.getfield 148, 3) := by decide +kernel
theorem dX7_forget_7 : decode cX7_forget 7 = .ok (.i2l, 1) := by decide +kernel
theorem dX7_forget_8 : decode cX7_forget 8 = .ok (.invokestatic 52, 3) := by decide +kernel
theorem dX7_forget_11 : decode cX7_forget 11 = .ok (.ifCond .ne 5, 3) := by decide +kernel
theorem dX7_forget_14 : decode cX7_forget 14 = .ok (.iconst (-1), 1) := by decide +kernel
theorem dX7_forget_15 : decode cX7_forget 15 = .ok (.ireturn, 1) := by decide +kernel
theorem dX7_forget_16 : decode cX7_forget 16 = .ok (.aload_n 0, 1) := by decide +kernel
theorem dX7_forget_17 : decode cX7_forget 17 = .ok (.getfield 148, 3) := by decide +kernel
theorem dX7_forget_20 : decode cX7_forget 20 = .ok (.istore_n 2, 1) := by decide +kernel
theorem dX7_forget_21 : decode cX7_forget 21 = .ok (.aload_n 0, 1) := by decide +kernel
theorem dX7_forget_22 : decode cX7_forget 22 = .ok (.iload_n 1, 1) := by decide +kernel
theorem dX7_forget_23 : decode cX7_forget 23 = .ok (.putfield 148, 3) := by decide +kernel
theorem dX7_forget_26 : decode cX7_forget 26 = .ok (.iload_n 2, 1) := by decide +kernel
theorem dX7_forget_27 : decode cX7_forget 27 = .ok (.ireturn, 1) := by decide +kernel
set_option maxRecDepth 20000 in
theorem ggX7_isAsSeen_X7_tries : GoodIn wsX7_isAsSeen wsX7_tries := goodIn_r _ [7, 8, 9, 10, 6, 11, 12, 13, 14, 15, 16, 17, 18, 19, 20, 21, 22, 23, 24, 25, 26, 27, 28, 29, 30, 31, 32, 33, 34, 35, 36, 37, 38, 39, 40, 41, 42, 43, 44, 45, 46, 47, 48, 49, 50, 51, 52, 53, 54, 55, 56, 57, 58, 59, 60, 61, 62, 63, 64, 65, 66, 67, 68, 69, 70, 71, 72, 73] (by decide +kernel) (by decide +kernel)
set_option maxRecDepth 20000 in
theorem gX7_isAsSeen_X7_tries : GoodIn wsX7_isAsSeen (wsV RX7 225 RX7 yX7_tries wsX7_tries) := goodIn_app (goodIn_of _ (by decide +kernel)) ggX7_isAsSeen_X7_tries
theorem dX7_isAsSeen_0 : decode cX7_isAsSeen 0 = .ok (.iconst 1, 1) := by decide +kernel
theorem dX7_isAsSeen_1 : decode cX7_isAsSeen 1 = .ok (.istore_n 1, 1) := by decide +kernel
theorem dX7_isAsSeen_2 : decode cX7_isAsSeen 2 = .ok (.iconst 0, 1) := by decide +kernel
theorem dX7_isAsSeen_3 : decode cX7_isAsSeen 3 = .ok (.istore_n 2, 1) := by decide +kernel
theorem dX7_isAsSeen_4 : decode cX7_isAsSeen 4 = .ok (.iload_n 2, 1) := by decide +kernel
theorem dX7_isAsSeen_5 : decode cX7_isAsSeen 5 = .ok (.aload_n 0, 1) := by decide +kernel
theorem dX7_isAsSeen_6 : decode cX7_isAsSeen 6 = .ok (.getfield 148, 3) := by decide +kernel
theorem dX7_isAsSeen_9 : decode cX7_isAsSeen 9 = .ok (.if_icmp .ge 55, 3) := by decide +kernel
theorem dX7_isAsSeen_12 : decode cX7_isAsSeen 12 = .ok (.iload_n 1, 1) := by decide +kernel
theorem dX7_isAsSeen_13 : decode cX7_isAsSeen 13 = .ok (.ifCond .eq 43, 3) := by decide +kernel
theorem dX7_isAsSeen_16 : decode cX7_isAsSeen 16 = .ok (.aload_n 0, 1) := by decide +kernel
theorem dX7_isAsSeen_17 : decode cX7_isAsSeen 17 = .ok (.iconst 0, 1) := by decide +kernel
theorem dX7_isAsSeen_18 : decode cX7_isAsSeen 18 = .ok (.aload_n 0, 1) := by decide +kernel
theorem dX7_isAsSeen_19 : decode cX7_isAsSeen 19 = .ok (.getfield 31, 3) := by decide +kernel
theorem dX7_isAsSeen_22 : decode cX7_isAsSeen 22 = .ok (.iconst 3, 1) := by decide +kernel
theorem dX7_isAsSeen_23 : decode cX7_isAsSeen 23 = .ok (.iload_n 2, 1) := by decide +kernel
theorem dX7_isAsSeen_24 : decode cX7_isAsSeen 24 = .ok (.imul, 1) := by decide +kernel
theorem dX7_isAsSeen_25 : decode cX7_isAsSeen 25 = .ok (.iaload, 1) := by decide +kernel
theorem dX7_isAsSeen_26 : decode cX7_isAsSeen 26 = .ok (.aload_n 0, 1) := by decide +kernel
theorem dX7_isAsSeen_27 : decode cX7_isAsSeen 27 = .ok (.getfield 31, 3) := by decide +kernel
theorem dX7_isAsSeen_30 : decode cX7_isAsSeen 30 = .ok (.iconst 3, 1) := by decide +kernel
theorem dX7_isAsSeen_31 : decode cX7_isAsSeen 31 = .ok (.iload_n 2, 1) := by decide +kernel
theorem dX7_isAsSeen_32 : decode cX7_isAsSeen 32 = .ok (.imul, 1) := by decide +kernel
theorem dX7_isAsSeen_33 : decode cX7_isAsSeen 33 = .ok (.iconst 1, 1) := by decide +kernel
theorem dX7_isAsSeen_34 : decode cX7_isAsSeen 34 = .ok (.iadd, 1) := by decide +kernel
theorem dX7_isAsSeen_35 : decode cX7_isAsSeen 35 = .ok (.iaload, 1) := by decide +kernel
theorem dX7_isAsSeen_36 : decode cX7_isAsSeen 36 = .ok (.invokevirtual 225, 3) := by decide +kernel
theorem dX7_isAsSeen_39 : decode cX7_isAsSeen 39 = .ok (.aload_n 0, 1) := by decide +kernel
theorem dX7_isAsSeen_40 : decode cX7_isAsSeen 40 = .ok (.getfield 31, 3) := by decide +kernel
theorem dX7_isAsSeen_43 : decode cX7_isAsSeen 43 = .ok (.iconst 3, 1) := by decide +kernel
theorem dX7_isAsSeen_44 : decode cX7_isAsSeen 44 = .ok (.iload_n 2, 1) := by decide +kernel
theorem dX7_isAsSeen_45 : decode cX7_isAsSeen 45 = .ok (.imul, 1) := by decide +kernel
theorem dX7_isAsSeen_46 : decode cX7_isAsSeen 46 = .ok (.iconst 2, 1) := by decide +kernel
theorem dX7_isAsSeen_47 : decode cX7_isAsSeen 47 = .ok (.iadd, 1) := by decide +kernel
theorem dX7_isAsSeen_48 : decode cX7_isAsSeen 48 = .ok (.iaload, 1) := by decide +kernel
theorem dX7_isAsSeen_49 : decode cX7_isAsSeen 49 = .ok (.if_icmp .ne 7, 3) := by decide +kernel
theorem dX7_isAsSeen_52 : decode cX7_isAsSeen 52 = .ok (.iconst 1, 1) := by decide +kernel
theorem dX7_isAsSeen_53 : decode cX7_isAsSeen 53 = .ok (.goto 4, 3) := by decide +kernel
theorem dX7_isAsSeen_56 : decode cX7_isAsSeen 56 = .ok (.iconst 0, 1) := by decide +kernel
theorem dX7_isAsSeen_57 : decode cX7_isAsSeen 57 = .ok (.istore_n 1, 1) := by decide +kernel
theorem dX7_isAsSeen_58 : decode cX7_isAsSeen 58 = .ok (.iinc 2 1, 3) := by decide +kernel
theorem dX7_isAsSeen_61 : decode cX7_isAsSeen 61 = .ok (.goto (-57), 3) := by decide +kernel
theorem dX7_isAsSeen_64 : decode cX7_isAsSeen 64 = .ok (.iload_n 1, 1) := by decide +kernel
theorem dX7_isAsSeen_65 : decode cX7_isAsSeen 65 = .ok (.ireturn, 1) := by decide +kernel
set_option maxRecDepth 20000 in
theorem ggX7_habitsOf_X7_isAsSeen : GoodIn wsX7_habitsOf wsX7_isAsSeen := goodIn_r _ [8, 9, 10, 11, 12, 13, 7, 14, 15, 16, 17, 18, 1, 19, 20, 21, 22, 23, 24, 25, 26, 27, 28, 29, 30, 31, 32, 33, 34, 35, 36, 37, 38, 39, 40, 41, 42, 43, 44, 45, 46, 47, 48, 49, 50, 51, 52, 53, 54, 55, 56, 57, 58, 59, 60, 61, 62, 63, 64, 65, 66, 67, 68, 69, 70, 71, 72, 73, 74, 75, 76, 77, 78, 79] (by decide +kernel) (by decide +kernel)
set_option maxRecDepth 20000 in
theorem gX7_habitsOf_X7_isAsSeen : GoodIn wsX7_habitsOf (wsV RX7 268 RX7 yX7_isAsSeen wsX7_isAsSeen) := goodIn_app (goodIn_of _ (by decide +kernel)) ggX7_habitsOf_X7_isAsSeen
set_option maxRecDepth 20000 in
theorem ggX7_habitsOf_X7_tries : GoodIn wsX7_habitsOf wsX7_tries := goodIn_r _ [14, 15, 16, 17, 7, 18, 1, 19, 20, 21, 22, 23, 24, 25, 26, 27, 28, 29, 30, 31, 32, 33, 34, 35, 36, 37, 38, 39, 40, 41, 42, 43, 44, 45, 46, 47, 48, 49, 50, 51, 52, 53, 54, 55, 56, 57, 58, 59, 60, 61, 62, 63, 64, 65, 66, 67, 68, 69, 70, 71, 72, 73, 74, 75, 76, 77, 78, 79] (by decide +kernel) (by decide +kernel)
set_option maxRecDepth 20000 in
theorem gX7_habitsOf_X7_tries : GoodIn wsX7_habitsOf (wsV RX7 225 RX7 yX7_tries wsX7_tries) := goodIn_app (goodIn_of _ (by decide +kernel)) ggX7_habitsOf_X7_tries
theorem dX7_habitsOf_0 : decode cX7_habitsOf 0 = .ok (.aload_n 0, 1) := by decide +kernel
theorem dX7_habitsOf_1 : decode cX7_habitsOf 1 = .ok (.getfield 7, 3) := by decide +kernel
theorem dX7_habitsOf_4 : decode cX7_habitsOf 4 = .ok (.bipush 40, 2) := by decide +kernel
theorem dX7_habitsOf_6 : decode cX7_habitsOf 6 = .ok (.iload_n 1, 1) := by decide +kernel
theorem dX7_habitsOf_7 : decode cX7_habitsOf 7 = .ok (.iadd, 1) := by decide +kernel
theorem dX7_habitsOf_8 : decode cX7_habitsOf 8 = .ok (.iaload, 1) := by decide +kernel
theorem dX7_habitsOf_9 : decode cX7_habitsOf 9 = .ok (.istore_n 2, 1) := by decide +kernel
theorem dX7_habitsOf_10 : decode cX7_habitsOf 10 = .ok (.iconst 0, 1) := by decide +kernel
theorem dX7_habitsOf_11 : decode cX7_habitsOf 11 = .ok (.istore_n 3, 1) := by decide +kernel
theorem dX7_habitsOf_12 : decode cX7_habitsOf 12 = .ok (.iconst 0, 1) := by decide +kernel
theorem dX7_habitsOf_13 : decode cX7_habitsOf 13 = .ok (.istore 4, 2) := by decide +kernel
theorem dX7_habitsOf_15 : decode cX7_habitsOf 15 = .ok (.iload 4, 2) := by decide +kernel
theorem dX7_habitsOf_17 : decode cX7_habitsOf 17 = .ok (.iconst 4, 1) := by decide +kernel
theorem dX7_habitsOf_18 : decode cX7_habitsOf 18 = .ok (.if_icmp .ge 76, 3) := by decide +kernel
theorem dX7_habitsOf_21 : decode cX7_habitsOf 21 = .ok (.aload_n 0, 1) := by decide +kernel
theorem dX7_habitsOf_22 : decode cX7_habitsOf 22 = .ok (.getfield 7, 3) := by decide +kernel
theorem dX7_habitsOf_25 : decode cX7_habitsOf 25 = .ok (.bipush 40, 2) := by decide +kernel
theorem dX7_habitsOf_27 : decode cX7_habitsOf 27 = .ok (.iload_n 1, 1) := by decide +kernel
theorem dX7_habitsOf_28 : decode cX7_habitsOf 28 = .ok (.iadd, 1) := by decide +kernel
theorem dX7_habitsOf_29 : decode cX7_habitsOf 29 = .ok (.iload 4, 2) := by decide +kernel
theorem dX7_habitsOf_31 : decode cX7_habitsOf 31 = .ok (.iastore, 1) := by decide +kernel
theorem dX7_habitsOf_32 : decode cX7_habitsOf 32 = .ok (.iload_n 3, 1) := by decide +kernel
theorem dX7_habitsOf_33 : decode cX7_habitsOf 33 = .ok (.aload_n 0, 1) := by decide +kernel
theorem dX7_habitsOf_34 : decode cX7_habitsOf 34 = .ok (.invokevirtual 268, 3) := by decide +kernel
theorem dX7_habitsOf_37 : decode cX7_habitsOf 37 = .ok (.ifCond .eq 10, 3) := by decide +kernel
theorem dX7_habitsOf_40 : decode cX7_habitsOf 40 = .ok (.iconst 1, 1) := by decide +kernel
theorem dX7_habitsOf_41 : decode cX7_habitsOf 41 = .ok (.iload 4, 2) := by decide +kernel
theorem dX7_habitsOf_43 : decode cX7_habitsOf 43 = .ok (.ishl, 1) := by decide +kernel
theorem dX7_habitsOf_44 : decode cX7_habitsOf 44 = .ok (.goto 4, 3) := by decide +kernel
theorem dX7_habitsOf_47 : decode cX7_habitsOf 47 = .ok (.iconst 0, 1) := by decide +kernel
theorem dX7_habitsOf_48 : decode cX7_habitsOf 48 = .ok (.ior, 1) := by decide +kernel
theorem dX7_habitsOf_49 : decode cX7_habitsOf 49 = .ok (.istore_n 3, 1) := by decide +kernel
theorem dX7_habitsOf_50 : decode cX7_habitsOf 50 = .ok (.iconst 0, 1) := by decide +kernel
theorem dX7_habitsOf_51 : decode cX7_habitsOf 51 = .ok (.istore 5, 2) := by decide +kernel
theorem dX7_habitsOf_53 : decode cX7_habitsOf 53 = .ok (.iload 5, 2) := by decide +kernel
theorem dX7_habitsOf_55 : decode cX7_habitsOf 55 = .ok (.aload_n 0, 1) := by decide +kernel
theorem dX7_habitsOf_56 : decode cX7_habitsOf 56 = .ok (.getfield 142, 3) := by decide +kernel
theorem dX7_habitsOf_59 : decode cX7_habitsOf 59 = .ok (.if_icmp .ge 29, 3) := by decide +kernel
theorem dX7_habitsOf_62 : decode cX7_habitsOf 62 = .ok (.aload_n 0, 1) := by decide +kernel
theorem dX7_habitsOf_63 : decode cX7_habitsOf 63 = .ok (.getfield 34, 3) := by decide +kernel
theorem dX7_habitsOf_66 : decode cX7_habitsOf 66 = .ok (.iconst 4, 1) := by decide +kernel
theorem dX7_habitsOf_67 : decode cX7_habitsOf 67 = .ok (.iload 4, 2) := by decide +kernel
theorem dX7_habitsOf_69 : decode cX7_habitsOf 69 = .ok (.imul, 1) := by decide +kernel
theorem dX7_habitsOf_70 : decode cX7_habitsOf 70 = .ok (.iload 5, 2) := by decide +kernel
theorem dX7_habitsOf_72 : decode cX7_habitsOf 72 = .ok (.iadd, 1) := by decide +kernel
theorem dX7_habitsOf_73 : decode cX7_habitsOf 73 = .ok (.aload_n 0, 1) := by decide +kernel
theorem dX7_habitsOf_74 : decode cX7_habitsOf 74 = .ok (.iconst 0, 1) := by decide +kernel
theorem dX7_habitsOf_75 : decode cX7_habitsOf 75 = .ok (.iload 5, 2) := by decide +kernel
theorem dX7_habitsOf_77 : decode cX7_habitsOf 77 = .ok (.iload_n 1, 1) := by decide +kernel
theorem dX7_habitsOf_78 : decode cX7_habitsOf 78 = .ok (.invokevirtual 225, 3) := by decide +kernel
theorem dX7_habitsOf_81 : decode cX7_habitsOf 81 = .ok (.iastore, 1) := by decide +kernel
theorem dX7_habitsOf_82 : decode cX7_habitsOf 82 = .ok (.iinc 5 1, 3) := by decide +kernel
theorem dX7_habitsOf_85 : decode cX7_habitsOf 85 = .ok (.goto (-32), 3) := by decide +kernel
theorem dX7_habitsOf_88 : decode cX7_habitsOf 88 = .ok (.iinc 4 1, 3) := by decide +kernel
theorem dX7_habitsOf_91 : decode cX7_habitsOf 91 = .ok (.goto (-76), 3) := by decide +kernel
theorem dX7_habitsOf_94 : decode cX7_habitsOf 94 = .ok (.aload_n 0, 1) := by decide +kernel
theorem dX7_habitsOf_95 : decode cX7_habitsOf 95 = .ok (.getfield 7, 3) := by decide +kernel
theorem dX7_habitsOf_98 : decode cX7_habitsOf 98 = .ok (.bipush 40, 2) := by decide +kernel
theorem dX7_habitsOf_100 : decode cX7_habitsOf 100 = .ok (.iload_n 1, 1) := by decide +kernel
theorem dX7_habitsOf_101 : decode cX7_habitsOf 101 = .ok (.iadd, 1) := by decide +kernel
theorem dX7_habitsOf_102 : decode cX7_habitsOf 102 = .ok (.iload_n 2, 1) := by decide +kernel
theorem dX7_habitsOf_103 : decode cX7_habitsOf 103 = .ok (.iastore, 1) := by decide +kernel
theorem dX7_habitsOf_104 : decode cX7_habitsOf 104 = .ok (.iload_n 3, 1) := by decide +kernel
theorem dX7_habitsOf_105 : decode cX7_habitsOf 105 = .ok (.ireturn, 1) := by decide +kernel
set_option maxRecDepth 20000 in
theorem ggX7_habits_X7_isJudge : GoodIn wsX7_habits wsX7_isJudge := goodIn_r _ [5, 6, 7, 8, 4, 9, 56, 57, 58, 59, 60, 61, 62, 63, 64, 65, 66, 67, 68, 69, 70, 71, 72, 73, 74, 75, 76, 77, 78, 79, 80, 81, 82, 83, 84, 85, 86, 87, 88, 89, 90, 91] (by decide +kernel) (by decide +kernel)
set_option maxRecDepth 20000 in
theorem gX7_habits_X7_isJudge : GoodIn wsX7_habits (wsV RX7 191 RX7 yX7_isJudge wsX7_isJudge) := goodIn_app (goodIn_of _ (by decide +kernel)) ggX7_habits_X7_isJudge
set_option maxRecDepth 20000 in
theorem ggX7_habits_X7_habitsOf : GoodIn wsX7_habits wsX7_habitsOf := goodIn_r _ [13, 14, 15, 16, 17, 18, 19, 4, 20, 21, 22, 23, 24, 25, 26, 27, 28, 29, 30, 31, 32, 33, 34, 35, 36, 37, 38, 39, 40, 41, 42, 43, 44, 45, 46, 47, 48, 49, 50, 51, 52, 53, 54, 55, 56, 57, 58, 59, 60, 61, 62, 63, 64, 65, 66, 67, 68, 69, 70, 71, 72, 73, 74, 75, 76, 77, 78, 79, 80, 81, 82, 83, 84, 85, 86, 87, 88, 89, 90, 91] (by decide +kernel) (by decide +kernel)
set_option maxRecDepth 20000 in
theorem gX7_habits_X7_habitsOf : GoodIn wsX7_habits (wsV RX7 272 RX7 yX7_habitsOf wsX7_habitsOf) := goodIn_app (goodIn_of _ (by decide +kernel)) ggX7_habits_X7_habitsOf
theorem dX7_habits_0 : decode cX7_habits 0 = .ok (.aload_n 0, 1) := by decide +kernel
theorem dX7_habits_1 : decode cX7_habits 1 = .ok (.iload_n 1, 1) := by decide +kernel
theorem dX7_habits_2 : decode cX7_habits 2 = .ok (.invokevirtual 191, 3) := by decide +kernel
theorem dX7_habits_5 : decode cX7_habits 5 = .ok (.ifCond .eq 11, 3) := by decide +kernel
theorem dX7_habits_8 : decode cX7_habits 8 = .ok (.aload_n 0, 1) := by decide +kernel
theorem dX7_habits_9 : decode cX7_habits 9 = .ok (.iload_n 1, 1) := by decide +kernel
theorem dX7_habits_10 : decode cX7_habits 10 = .ok (.invokevirtual 272, 3) := by decide +kernel
theorem dX7_habits_13 : decode cX7_habits 13 = .ok (.goto 4, 3) := by decide +kernel
theorem dX7_habits_16 : decode cX7_habits 16 = .ok (.iconst (-1), 1) := by decide +kernel
theorem dX7_habits_17 : decode cX7_habits 17 = .ok (.ireturn, 1) := by decide +kernel
set_option maxRecDepth 20000 in
theorem ggX7_slows_X7_isJudge : GoodIn wsX7_slows wsX7_isJudge := goodIn_r _ [6, 7, 8, 9, 5, 10, 50, 51, 52, 53, 54, 55, 56, 57, 58, 59, 60, 61, 62, 63, 64, 65, 66, 67, 68, 69, 70, 71, 72, 73, 74, 75, 76, 77, 78, 79, 80, 81, 82, 83, 84, 85] (by decide +kernel) (by decide +kernel)
set_option maxRecDepth 20000 in
theorem gX7_slows_X7_isJudge : GoodIn wsX7_slows (wsV RX7 191 RX7 yX7_isJudge wsX7_isJudge) := goodIn_app (goodIn_of _ (by decide +kernel)) ggX7_slows_X7_isJudge
set_option maxRecDepth 20000 in
theorem ggX7_slows_X7_isAsSeen : GoodIn wsX7_slows wsX7_isAsSeen := goodIn_r _ [14, 15, 16, 17, 18, 19, 5, 20, 21, 22, 23, 24, 1, 25, 26, 27, 28, 29, 30, 31, 32, 33, 34, 35, 36, 37, 38, 39, 40, 41, 42, 43, 44, 45, 46, 47, 48, 49, 50, 51, 52, 53, 54, 55, 56, 57, 58, 59, 60, 61, 62, 63, 64, 65, 66, 67, 68, 69, 70, 71, 72, 73, 74, 75, 76, 77, 78, 79, 80, 81, 82, 83, 84, 85] (by decide +kernel) (by decide +kernel)
set_option maxRecDepth 20000 in
theorem gX7_slows_X7_isAsSeen : GoodIn wsX7_slows (wsV RX7 268 RX7 yX7_isAsSeen wsX7_isAsSeen) := goodIn_app (goodIn_of _ (by decide +kernel)) ggX7_slows_X7_isAsSeen
theorem dX7_slows_0 : decode cX7_slows 0 = .ok (.aload_n 0, 1) := by decide +kernel
theorem dX7_slows_1 : decode cX7_slows 1 = .ok (.iload_n 1, 1) := by decide +kernel
theorem dX7_slows_2 : decode cX7_slows 2 = .ok (.invokevirtual 191, 3) := by decide +kernel
theorem dX7_slows_5 : decode cX7_slows 5 = .ok (.ifCond .ne 5, 3) := by decide +kernel
theorem dX7_slows_8 : decode cX7_slows 8 = .ok (.iconst (-1), 1) := by decide +kernel
theorem dX7_slows_9 : decode cX7_slows 9 = .ok (.ireturn, 1) := by decide +kernel
theorem dX7_slows_10 : decode cX7_slows 10 = .ok (.aload_n 0, 1) := by decide +kernel
theorem dX7_slows_11 : decode cX7_slows 11 = .ok (.getfield 7, 3) := by decide +kernel
theorem dX7_slows_14 : decode cX7_slows 14 = .ok (.bipush 43, 2) := by decide +kernel
theorem dX7_slows_16 : decode cX7_slows 16 = .ok (.iload_n 1, 1) := by decide +kernel
theorem dX7_slows_17 : decode cX7_slows 17 = .ok (.iadd, 1) := by decide +kernel
theorem dX7_slows_18 : decode cX7_slows 18 = .ok (.iaload, 1) := by decide +kernel
theorem dX7_slows_19 : decode cX7_slows 19 = .ok (.istore_n 2, 1) := by decide +kernel
theorem dX7_slows_20 : decode cX7_slows 20 = .ok (.iconst 0, 1) := by decide +kernel
theorem dX7_slows_21 : decode cX7_slows 21 = .ok (.istore_n 3, 1) := by decide +kernel
theorem dX7_slows_22 : decode cX7_slows 22 = .ok (.iconst 1, 1) := by decide +kernel
theorem dX7_slows_23 : decode cX7_slows 23 = .ok (.istore 4, 2) := by decide +kernel
theorem dX7_slows_25 : decode cX7_slows 25 = .ok (.iload 4, 2) := by decide +kernel
theorem dX7_slows_27 : decode cX7_slows 27 = .ok (.bipush 9, 2) := by decide +kernel
theorem dX7_slows_29 : decode cX7_slows 29 = .ok (.if_icmp .gt 38, 3) := by decide +kernel
theorem dX7_slows_32 : decode cX7_slows 32 = .ok (.aload_n 0, 1) := by decide +kernel
theorem dX7_slows_33 : decode cX7_slows 33 = .ok (.getfield 7, 3) := by decide +kernel
theorem dX7_slows_36 : decode cX7_slows 36 = .ok (.bipush 43, 2) := by decide +kernel
theorem dX7_slows_38 : decode cX7_slows 38 = .ok (.iload_n 1, 1) := by decide +kernel
theorem dX7_slows_39 : decode cX7_slows 39 = .ok (.iadd, 1) := by decide +kernel
theorem dX7_slows_40 : decode cX7_slows 40 = .ok (.iload 4, 2) := by decide +kernel
theorem dX7_slows_42 : decode cX7_slows 42 = .ok (.iastore, 1) := by decide +kernel
theorem dX7_slows_43 : decode cX7_slows 43 = .ok (.iload_n 3, 1) := by decide +kernel
theorem dX7_slows_44 : decode cX7_slows 44 = .ok (.aload_n 0, 1) := by decide +kernel
theorem dX7_slows_45 : decode cX7_slows 45 = .ok (.invokevirtual 268, 3) := by decide +kernel
theorem dX7_slows_48 : decode cX7_slows 48 = .ok (.ifCond .eq 10, 3) := by decide +kernel
theorem dX7_slows_51 : decode cX7_slows 51 = .ok (.iconst 1, 1) := by decide +kernel
theorem dX7_slows_52 : decode cX7_slows 52 = .ok (.iload 4, 2) := by decide +kernel
theorem dX7_slows_54 : decode cX7_slows 54 = .ok (.ishl, 1) := by decide +kernel
theorem dX7_slows_55 : decode cX7_slows 55 = .ok (.goto 4, 3) := by decide +kernel
theorem dX7_slows_58 : decode cX7_slows 58 = .ok (.iconst 0, 1) := by decide +kernel
theorem dX7_slows_59 : decode cX7_slows 59 = .ok (.ior, 1) := by decide +kernel
theorem dX7_slows_60 : decode cX7_slows 60 = .ok (.istore_n 3, 1) := by decide +kernel
theorem dX7_slows_61 : decode cX7_slows 61 = .ok (.iinc 4 1, 3) := by decide +kernel
theorem dX7_slows_64 : decode cX7_slows 64 = .ok (.goto (-39), 3) := by decide +kernel
theorem dX7_slows_67 : decode cX7_slows 67 = .ok (.aload_n 0, 1) := by decide +kernel
theorem dX7_slows_68 : decode cX7_slows 68 = .ok (.getfield 7, 3) := by decide +kernel
theorem dX7_slows_71 : decode cX7_slows 71 = .ok (.bipush 43, 2) := by decide +kernel
theorem dX7_slows_73 : decode cX7_slows 73 = .ok (.iload_n 1, 1) := by decide +kernel
theorem dX7_slows_74 : decode cX7_slows 74 = .ok (.iadd, 1) := by decide +kernel
theorem dX7_slows_75 : decode cX7_slows 75 = .ok (.iload_n 2, 1) := by decide +kernel
theorem dX7_slows_76 : decode cX7_slows 76 = .ok (.iastore, 1) := by decide +kernel
theorem dX7_slows_77 : decode cX7_slows 77 = .ok (.iload_n 3, 1) := by decide +kernel
theorem dX7_slows_78 : decode cX7_slows 78 = .ok (.ireturn, 1) := by decide +kernel
set_option maxRecDepth 20000 in
theorem ggX7_ask_X7_isJudge : GoodIn wsX7_ask wsX7_isJudge := goodIn_r _ [7, 8, 9, 10, 6, 11, 59, 60, 61, 62, 63, 64, 65, 66, 67, 68, 69, 70, 71, 72, 73, 74, 75, 76, 77, 78, 79, 80, 81, 82, 83, 84, 85, 86, 87, 88, 89, 90, 91, 92, 93, 94] (by decide +kernel) (by decide +kernel)
set_option maxRecDepth 20000 in
theorem gX7_ask_X7_isJudge : GoodIn wsX7_ask (wsV RX7 191 RX7 yX7_isJudge wsX7_isJudge) := goodIn_app (goodIn_of _ (by decide +kernel)) ggX7_ask_X7_isJudge
set_option maxRecDepth 20000 in
theorem ggX7_ask_X7_in : GoodIn wsX7_ask wsX7_in := goodIn_r _ [11] (by decide +kernel) (by decide +kernel)
set_option maxRecDepth 20000 in
theorem gX7_ask_X7_in : GoodIn wsX7_ask (va_wsS RX7 52 yX7_in wsX7_in) := goodIn_app (goodIn_of _ (by decide +kernel)) ggX7_ask_X7_in
set_option maxRecDepth 20000 in
theorem ggX7_ask_X7_habitsOf : GoodIn wsX7_ask wsX7_habitsOf := goodIn_r _ [15, 16, 1, 2, 17, 18, 19, 6, 20, 21, 22, 23, 24, 25, 26, 27, 28, 29, 30, 31, 32, 33, 34, 35, 36, 37, 38, 39, 40, 41, 42, 43, 44, 45, 46, 47, 48, 49, 50, 51, 52, 53, 54, 55, 59, 60, 61, 62, 63, 64, 65, 66, 67, 68, 69, 70, 71, 72, 73, 74, 75, 76, 77, 78, 79, 80, 81, 82, 83, 84, 85, 86, 87, 88, 89, 90, 91, 92, 93, 94] (by decide +kernel) (by decide +kernel)
set_option maxRecDepth 20000 in
theorem gX7_ask_X7_habitsOf : GoodIn wsX7_ask (wsV RX7 272 RX7 yX7_habitsOf wsX7_habitsOf) := goodIn_app (goodIn_of _ (by decide +kernel)) ggX7_ask_X7_habitsOf
set_option maxRecDepth 20000 in
theorem ggX7_ask_X7_bitsOf : GoodIn wsX7_ask wsX7_bitsOf := goodIn_r _ [58] (by decide +kernel) (by decide +kernel)
set_option maxRecDepth 20000 in
theorem gX7_ask_X7_bitsOf : GoodIn wsX7_ask (va_wsS RX7 252 yX7_bitsOf wsX7_bitsOf) := goodIn_app (goodIn_of _ (by decide +kernel)) ggX7_ask_X7_bitsOf
theorem dX7_ask_0 : decode cX7_ask 0 = .ok (.aload_n 0, 1) := by decide +kernel
theorem dX7_ask_1 : decode cX7_ask 1 = .ok (.iload_n 1, 1) := by decide +kernel
theorem dX7_ask_2 : decode cX7_ask 2 = .ok (.invokevirtual 191, 3) := by decide +kernel
theorem dX7_ask_5 : decode cX7_ask 5 = .ok (.ifCond .eq 13, 3) := by decide +kernel
theorem dX7_ask_8 : decode cX7_ask 8 = .ok (.iload_n 2, 1) := by decide +kernel
theorem dX7_ask_9 : decode cX7_ask 9 = .ok (.i2l, 1) := by decide +kernel
theorem dX7_ask_10 : decode cX7_ask 10 = .ok (.lconst 0, 1) := by decide +kernel
theorem dX7_ask_11 : decode cX7_ask 11 = .ok (.lconst 1, 1) := by decide +kernel
theorem dX7_ask_12 : decode cX7_ask 12 = .ok (.invokestatic 52, 3) := by decide +kernel
theorem dX7_ask_15 : decode cX7_ask 15 = .ok (.ifCond .ne 5, 3) := by decide +kernel
theorem dX7_ask_18 : decode cX7_ask 18 = .ok (.iconst (-1), 1) := by decide +kernel
theorem dX7_ask_19 : decode cX7_ask 19 = .ok (.ireturn, 1) := by decide +kernel
theorem dX7_ask_20 : decode cX7_ask 20 = .ok (.aload_n 0, 1) := by decide +kernel
theorem dX7_ask_21 : decode cX7_ask 21 = .ok (.iload_n 1, 1) := by decide +kernel
theorem dX7_ask_22 : decode cX7_ask 22 = .ok (.invokevirtual 272, 3) := by decide +kernel
theorem dX7_ask_25 : decode cX7_ask 25 = .ok (.istore_n 3, 1) := by decide +kernel
theorem dX7_ask_26 : decode cX7_ask 26 = .ok (.iload_n 3, 1) := by decide +kernel
theorem dX7_ask_27 : decode cX7_ask 27 = .ok (.invokestatic 252, 3) := by decide +kernel
theorem dX7_ask_30 : decode cX7_ask 30 = .ok (.istore 4, 2) := by decide +kernel
theorem dX7_ask_32 : decode cX7_ask 32 = .ok (.bipush (-4), 2) := by decide +kernel
theorem dX7_ask_34 : decode cX7_ask 34 = .ok (.istore 5, 2) := by decide +kernel
theorem dX7_ask_36 : decode cX7_ask 36 = .ok (.iconst 0, 1) := by decide +kernel
theorem dX7_ask_37 : decode cX7_ask 37 = .ok (.istore 6, 2) := by decide +kernel
theorem dX7_ask_39 : decode cX7_ask 39 = .ok (.iload 6, 2) := by decide +kernel
theorem dX7_ask_41 : decode cX7_ask 41 = .ok (.aload_n 0, 1) := by decide +kernel
theorem dX7_ask_42 : decode cX7_ask 42 = .ok (.getfield 142, 3) := by decide +kernel
theorem dX7_ask_45 : decode cX7_ask 45 = .ok (.if_icmp .ge 150, 3) := by decide +kernel
theorem dX7_ask_48 : decode cX7_ask 48 = .ok (.iconst 0, 1) := by decide +kernel
theorem dX7_ask_49 : decode cX7_ask 49 = .ok (.istore 7, 2) := by decide +kernel
theorem dX7_ask_51 : decode cX7_ask 51 = .ok (.iconst 0, 1) := by decide +kernel
theorem dX7_ask_52 : decode cX7_ask 52 = .ok (.istore 8, 2) := by decide +kernel
theorem dX7_ask_54 : decode cX7_ask 54 = .ok (.iload 8, 2) := by decide +kernel
theorem dX7_ask_56 : decode cX7_ask 56 = .ok (.iconst 4, 1) := by decide +kernel
theorem dX7_ask_57 : decode cX7_ask 57 = .ok (.if_icmp .ge 100, 3) := by decide +kernel
theorem dX7_ask_60 : decode cX7_ask 60 = .ok (.iconst 0, 1) := by decide +kernel
theorem dX7_ask_61 : decode cX7_ask 61 = .ok (.istore 9, 2) := by decide +kernel
theorem dX7_ask_63 : decode cX7_ask 63 = .ok (.iconst 0, 1) := by decide +kernel
theorem dX7_ask_64 : decode cX7_ask 64 = .ok (.istore 10, 2) := by decide +kernel
theorem dX7_ask_66 : decode cX7_ask 66 = .ok (.iload 10, 2) := by decide +kernel
theorem dX7_ask_68 : decode cX7_ask 68 = .ok (.iconst 4, 1) := by decide +kernel
theorem dX7_ask_69 : decode cX7_ask 69 = .ok (.if_icmp .ge 66, 3) := by decide +kernel
theorem dX7_ask_72 : decode cX7_ask 72 = .ok (.iload_n 3, 1) := by decide +kernel
theorem dX7_ask_73 : decode cX7_ask 73 = .ok (.iload 8, 2) := by decide +kernel
theorem dX7_ask_75 : decode cX7_ask 75 = .ok (.ishr, 1) := by decide +kernel
theorem dX7_ask_76 : decode cX7_ask 76 = .ok (.iconst 1, 1) := by decide +kernel
theorem dX7_ask_77 : decode cX7_ask 77 = .ok (.iand, 1) := by decide +kernel
theorem dX7_ask_78 : decode cX7_ask 78 = .ok (.iconst 1, 1) := by decide +kernel
theorem dX7_ask_79 : decode cX7_ask 79 = .ok (.if_icmp .ne 56, 3) := by decide +kernel
theorem dX7_ask_82 : decode cX7_ask 82 = .ok (.iload 9, 2) := by decide +kernel
theorem dX7_ask_84 : decode cX7_ask 84 = .ok (.iload_n 3, 1) := by decide +kernel
theorem dX7_ask_85 : decode cX7_ask 85 = .ok (.iload 10, 2) := by decide +kernel
theorem dX7_ask_87 : decode cX7_ask 87 = .ok (.ishr, 1) := by decide +kernel
theorem dX7_ask_88 : decode cX7_ask 88 = .ok (.iconst 1, 1) := by decide +kernel
theorem dX7_ask_89 : decode cX7_ask 89 = .ok (.iand, 1) := by decide +kernel
theorem dX7_ask_90 : decode cX7_ask 90 = .ok (.iconst 1, 1) := by decide +kernel
theorem dX7_ask_91 : decode cX7_ask 91 = .ok (.if_icmp .ne 34, 3) := by decide +kernel
theorem dX7_ask_94 : decode cX7_ask 94 = .ok (.aload_n 0, 1) := by decide +kernel
theorem dX7_ask_95 : decode cX7_ask 95 = .ok (.getfield 34, 3) := by decide +kernel
theorem dX7_ask_98 : decode cX7_ask 98 = .ok (.iconst 4, 1) := by decide +kernel
theorem dX7_ask_99 : decode cX7_ask 99 = .ok (.iload 8, 2) := by decide +kernel
theorem dX7_ask_101 : decode cX7_ask 101 = .ok (.imul, 1) := by decide +kernel
theorem dX7_ask_102 : decode cX7_ask 102 = .ok (.iload 6, 2) := by decide +kernel
theorem dX7_ask_104 : decode cX7_ask 104 = .ok (.iadd, 1) := by decide +kernel
theorem dX7_ask_105 : decode cX7_ask 105 = .ok (.iaload, 1) := by decide +kernel
theorem dX7_ask_106 : decode cX7_ask 106 = .ok (.aload_n 0, 1) := by decide +kernel
theorem dX7_ask_107 : decode cX7_ask 107 = .ok (.getfield 34, 3) := by decide +kernel
theorem dX7_ask_110 : decode cX7_ask 110 = .ok (.iconst 4, 1) := by decide +kernel
theorem dX7_ask_111 : decode cX7_ask 111 = .ok (.iload 10, 2) := by decide +kernel
theorem dX7_ask_113 : decode cX7_ask 113 = .ok (.imul, 1) := by decide +kernel
theorem dX7_ask_114 : decode cX7_ask 114 = .ok (.iload 6, 2) := by decide +kernel
theorem dX7_ask_116 : decode cX7_ask 116 = .ok (.iadd, 1) := by decide +kernel
theorem dX7_ask_117 : decode cX7_ask 117 = .ok (.iaload, 1) := by decide +kernel
theorem dX7_ask_118 : decode cX7_ask 118 = .ok (.if_icmp .ne 7, 3) := by decide +kernel
theorem dX7_ask_121 : decode cX7_ask 121 = .ok (.iconst 1, 1) := by decide +kernel
theorem dX7_ask_122 : decode cX7_ask 122 = .ok (.goto 4, 3) := by decide +kernel
theorem dX7_ask_125 : decode cX7_ask 125 = .ok (.iconst 0, 1) := by decide +kernel
theorem dX7_ask_126 : decode cX7_ask 126 = .ok (.iadd, 1) := by decide +kernel
theorem dX7_ask_127 : decode cX7_ask 127 = .ok (.istore 9, 2) := by decide +kernel
theorem dX7_ask_129 : decode cX7_ask 129 = .ok (.iinc 10 1, 3) := by decide +kernel
theorem dX7_ask_132 : decode cX7_ask 132 = .ok (.goto (-66), 3) := by decide +kernel
theorem dX7_ask_135 : decode cX7_ask 135 = .ok (.iload 9, 2) := by decide +kernel
theorem dX7_ask_137 : decode cX7_ask 137 = .ok (.iload 7, 2) := by decide +kernel
theorem dX7_ask_139 : decode cX7_ask 139 = .ok (.if_icmp .le 8, 3) := by decide +kernel
theorem dX7_ask_142 : decode cX7_ask 142 = .ok (.iload 9, 2) := by decide +kernel
theorem dX7_ask_144 : decode cX7_ask 144 = .ok (.goto 5, 3) := by decide +kernel
theorem dX7_ask_147 : decode cX7_ask 147 = .ok (.iload 7, 2) := by decide +kernel
theorem dX7_ask_149 : decode cX7_ask 149 = .ok (.istore 7, 2) := by decide +kernel
theorem dX7_ask_151 : decode cX7_ask 151 = .ok (.iinc 8 1, 3) := by decide +kernel
theorem dX7_ask_154 : decode cX7_ask 154 = .ok (.goto (-100), 3) := by decide +kernel
theorem dX7_ask_157 : decode cX7_ask 157 = .ok (.iload 7, 2) := by decide +kernel
theorem dX7_ask_159 : decode cX7_ask 159 = .ok (.iload 4, 2) := by decide +kernel
theorem dX7_ask_161 : decode cX7_ask 161 = .ok (.if_icmp .ge 8, 3) := by decide +kernel
theorem dX7_ask_164 : decode cX7_ask 164 = .ok (.iload 6, 2) := by decide +kernel
theorem dX7_ask_166 : decode cX7_ask 166 = .ok (.goto 5, 3) := by decide +kernel
theorem dX7_ask_169 : decode cX7_ask 169 = .ok (.iload 5, 2) := by decide +kernel
theorem dX7_ask_171 : decode cX7_ask 171 = .ok (.istore 5, 2) := by decide +kernel
theorem dX7_ask_173 : decode cX7_ask 173 = .ok (.iload 7, 2) := by decide +kernel
theorem dX7_ask_175 : decode cX7_ask 175 = .ok (.iload 4, 2) := by decide +kernel
theorem dX7_ask_177 : decode cX7_ask 177 = .ok (.if_icmp .ge 8, 3) := by decide +kernel
theorem dX7_ask_180 : decode cX7_ask 180 = .ok (.iload 7, 2) := by decide +kernel
theorem dX7_ask_182 : decode cX7_ask 182 = .ok (.goto 5, 3) := by decide +kernel
theorem dX7_ask_185 : decode cX7_ask 185 = .ok (.iload 4, 2) := by decide +kernel
theorem dX7_ask_187 : decode cX7_ask 187 = .ok (.istore 4, 2) := by decide +kernel
theorem dX7_ask_189 : decode cX7_ask 189 = .ok (.iinc 6 1, 3) := by decide +kernel
theorem dX7_ask_192 : decode cX7_ask 192 = .ok (.goto (-153), 3) := by decide +kernel
theorem dX7_ask_195 : decode cX7_ask 195 = .ok (.iload 5, 2) := by decide +kernel
theorem dX7_ask_197 : decode cX7_ask 197 = .ok (.bipush (-4), 2) := by decide +kernel
theorem dX7_ask_199 : decode cX7_ask 199 = .ok (.if_icmp .eq 7, 3) := by decide +kernel
theorem dX7_ask_202 : decode cX7_ask 202 = .ok (.iload_n 2, 1) := by decide +kernel
theorem dX7_ask_203 : decode cX7_ask 203 = .ok (.ifCond .ne 8, 3) := by decide +kernel
theorem dX7_ask_206 : decode cX7_ask 206 = .ok (.iload 5, 2) := by decide +kernel
theorem dX7_ask_208 : decode cX7_ask 208 = .ok (.goto 5, 3) := by decide +kernel
theorem dX7_ask_211 : decode cX7_ask 211 = .ok (.iload 4, 2) := by decide +kernel
theorem dX7_ask_213 : decode cX7_ask 213 = .ok (.ireturn, 1) := by decide +kernel
set_option maxRecDepth 20000 in
theorem ggX7_drift_X7_in : GoodIn wsX7_drift wsX7_in := goodIn_r _ [9] (by decide +kernel) (by decide +kernel)
set_option maxRecDepth 20000 in
theorem gX7_drift_X7_in : GoodIn wsX7_drift (va_wsS RX7 52 yX7_in wsX7_in) := goodIn_app (goodIn_of _ (by decide +kernel)) ggX7_drift_X7_in
set_option maxRecDepth 20000 in
theorem ggX7_drift_X7_copies : GoodIn wsX7_drift wsX7_copies := goodIn_r _ [13, 5, 43, 44, 45, 46, 47, 48, 49, 50, 51, 52, 53, 54, 55, 56, 57, 58, 59, 60, 61, 62, 63, 64, 65, 66, 67, 68, 69, 70, 71, 72, 73, 74, 75, 76, 77, 78] (by decide +kernel) (by decide +kernel)
set_option maxRecDepth 20000 in
theorem gX7_drift_X7_copies : GoodIn wsX7_drift (wsV RX7 220 RX7 yX7_copies wsX7_copies) := goodIn_app (goodIn_of _ (by decide +kernel)) ggX7_drift_X7_copies
set_option maxRecDepth 20000 in
theorem ggX7_drift_X7_hearsOn : GoodIn wsX7_drift wsX7_hearsOn := goodIn_r _ [17, 5, 18, 19, 20, 21, 8, 22, 23, 24, 25, 26, 27, 28, 29, 30, 31, 32, 33, 34, 35, 36, 37, 38, 43, 44, 45, 46, 47, 48, 49, 50, 51, 52, 53, 54, 55, 56, 57, 58, 59, 60, 61, 62, 63, 64, 65, 66, 67, 68, 69, 70, 71, 72, 73, 74, 75, 76, 77, 78] (by decide +kernel) (by decide +kernel)
set_option maxRecDepth 20000 in
theorem gX7_drift_X7_hearsOn : GoodIn wsX7_drift (wsV RX7 204 RX7 yX7_hearsOn wsX7_hearsOn) := goodIn_app (goodIn_of _ (by decide +kernel)) ggX7_drift_X7_hearsOn
set_option maxRecDepth 20000 in
theorem ggX7_drift_X7_lengthsOn : GoodIn wsX7_drift wsX7_lengthsOn := goodIn_r _ [42, 2, 5, 43, 44, 45, 46, 47, 48, 49, 50, 51, 52, 53, 54, 55, 56, 57, 58, 59, 60, 61, 62, 63, 64, 65, 66, 67, 68, 69, 70, 71, 72, 73, 74, 75, 76, 77, 78] (by decide +kernel) (by decide +kernel)
set_option maxRecDepth 20000 in
theorem gX7_drift_X7_lengthsOn : GoodIn wsX7_drift (wsV RX7 181 RX7 yX7_lengthsOn wsX7_lengthsOn) := goodIn_app (goodIn_of _ (by decide +kernel)) ggX7_drift_X7_lengthsOn
theorem dX7_drift_0 : decode cX7_drift 0 = .ok (.iload_n 2, 1) := by decide +kernel
theorem dX7_drift_1 : decode cX7_drift 1 = .ok (.i2l, 1) := by decide +kernel
theorem dX7_drift_2 : decode cX7_drift 2 = .ok (.lconst 1, 1) := by decide +kernel
theorem dX7_drift_3 : decode cX7_drift 3 = .ok (.ldc2_w 275, 3) := by decide +kernel
theorem dX7_drift_6 : decode cX7_drift 6 = .ok (.invokestatic 52, 3) := by decide +kernel
theorem dX7_drift_9 : decode cX7_drift 9 = .ok (.ifCond .eq 13, 3) := by decide +kernel
theorem dX7_drift_12 : decode cX7_drift 12 = .ok (.iload_n 3, 1) := by decide +kernel
theorem dX7_drift_13 : decode cX7_drift 13 = .ok (.i2l, 1) := by decide +kernel
theorem dX7_drift_14 : decode cX7_drift 14 = .ok (.lconst 0, 1) := by decide +kernel
theorem dX7_drift_15 : decode cX7_drift 15 = .ok (.lconst 1, 1) := by decide +kernel
theorem dX7_drift_16 : decode cX7_drift 16 = .ok (.invokestatic 52, 3) := by decide +kernel
theorem dX7_drift_19 : decode cX7_drift 19 = .ok (.ifCond .ne 5, 3) := by decide +kernel
theorem dX7_drift_22 : decode cX7_drift 22 = .ok (.iconst (-1), 1) := by decide +kernel
theorem dX7_drift_23 : decode cX7_drift 23 = .ok (.ireturn, 1) := by decide +kernel
theorem dX7_drift_24 : decode cX7_drift 24 = .ok (.aload_n 0, 1) := by decide +kernel
theorem dX7_drift_25 : decode cX7_drift 25 = .ok (.getfield 142, 3) := by decide +kernel
theorem dX7_drift_28 : decode cX7_drift 28 = .ok (.ifCond .eq 10, 3) := by decide +kernel
theorem dX7_drift_31 : decode cX7_drift 31 = .ok (.aload_n 0, 1) := by decide +kernel
theorem dX7_drift_32 : decode cX7_drift 32 = .ok (.getfield 145, 3) := by decide +kernel
theorem dX7_drift_35 : decode cX7_drift 35 = .ok (.ifCond .ne 6, 3) := by decide +kernel
theorem dX7_drift_38 : decode cX7_drift 38 = .ok (.bipush (-2), 2) := by decide +kernel
theorem dX7_drift_40 : decode cX7_drift 40 = .ok (.ireturn, 1) := by decide +kernel
theorem dX7_drift_41 : decode cX7_drift 41 = .ok (.aload_n 0, 1) := by decide +kernel
theorem dX7_drift_42 : decode cX7_drift 42 = .ok (.iconst 0, 1) := by decide +kernel
theorem dX7_drift_43 : decode cX7_drift 43 = .ok (.sipush 272, 3) := by decide +kernel
theorem dX7_drift_46 : decode cX7_drift 46 = .ok (.invokevirtual 220, 3) := by decide +kernel
theorem dX7_drift_49 : decode cX7_drift 49 = .ok (.iload_n 1, 1) := by decide +kernel
theorem dX7_drift_50 : decode cX7_drift 50 = .ok (.istore 4, 2) := by decide +kernel
theorem dX7_drift_52 : decode cX7_drift 52 = .ok (.iconst 0, 1) := by decide +kernel
theorem dX7_drift_53 : decode cX7_drift 53 = .ok (.istore 5, 2) := by decide +kernel
theorem dX7_drift_55 : decode cX7_drift 55 = .ok (.iconst 0, 1) := by decide +kernel
theorem dX7_drift_56 : decode cX7_drift 56 = .ok (.istore 6, 2) := by decide +kernel
theorem dX7_drift_58 : decode cX7_drift 58 = .ok (.iload 6, 2) := by decide +kernel
theorem dX7_drift_60 : decode cX7_drift 60 = .ok (.iload_n 2, 1) := by decide +kernel
theorem dX7_drift_61 : decode cX7_drift 61 = .ok (.if_icmp .ge 104, 3) := by decide +kernel
theorem dX7_drift_64 : decode cX7_drift 64 = .ok (.iload 4, 2) := by decide +kernel
theorem dX7_drift_66 : decode cX7_drift 66 = .ok (.ldc_w 277, 3) := by decide +kernel
theorem dX7_drift_69 : decode cX7_drift 69 = .ok (.imul, 1) := by decide +kernel
theorem dX7_drift_70 : decode cX7_drift 70 = .ok (.sipush 12345, 3) := by decide +kernel
theorem dX7_drift_73 : decode cX7_drift 73 = .ok (.iadd, 1) := by decide +kernel
theorem dX7_drift_74 : decode cX7_drift 74 = .ok (.istore 4, 2) := by decide +kernel
theorem dX7_drift_76 : decode cX7_drift 76 = .ok (.iload 4, 2) := by decide +kernel
theorem dX7_drift_78 : decode cX7_drift 78 = .ok (.bipush 16, 2) := by decide +kernel
theorem dX7_drift_80 : decode cX7_drift 80 = .ok (.ishr, 1) := by decide +kernel
theorem dX7_drift_81 : decode cX7_drift 81 = .ok (.sipush 32767, 3) := by decide +kernel
theorem dX7_drift_84 : decode cX7_drift 84 = .ok (.iand, 1) := by decide +kernel
theorem dX7_drift_85 : decode cX7_drift 85 = .ok (.istore 7, 2) := by decide +kernel
theorem dX7_drift_87 : decode cX7_drift 87 = .ok (.iload 7, 2) := by decide +kernel
theorem dX7_drift_89 : decode cX7_drift 89 = .ok (.aload_n 0, 1) := by decide +kernel
theorem dX7_drift_90 : decode cX7_drift 90 = .ok (.getfield 142, 3) := by decide +kernel
theorem dX7_drift_93 : decode cX7_drift 93 = .ok (.irem, 1) := by decide +kernel
theorem dX7_drift_94 : decode cX7_drift 94 = .ok (.istore 8, 2) := by decide +kernel
theorem dX7_drift_96 : decode cX7_drift 96 = .ok (.aload_n 0, 1) := by decide +kernel
theorem dX7_drift_97 : decode cX7_drift 97 = .ok (.getfield 7, 3) := by decide +kernel
theorem dX7_drift_100 : decode cX7_drift 100 = .ok (.sipush 280, 3) := by decide +kernel
theorem dX7_drift_103 : decode cX7_drift 103 = .ok (.iconst 2, 1) := by decide +kernel
theorem dX7_drift_104 : decode cX7_drift 104 = .ok (.iload 8, 2) := by decide +kernel
theorem dX7_drift_106 : decode cX7_drift 106 = .ok (.imul, 1) := by decide +kernel
theorem dX7_drift_107 : decode cX7_drift 107 = .ok (.iadd, 1) := by decide +kernel
theorem dX7_drift_108 : decode cX7_drift 108 = .ok (.iload 7, 2) := by decide +kernel
theorem dX7_drift_110 : decode cX7_drift 110 = .ok (.bipush 8, 2) := by decide +kernel
theorem dX7_drift_112 : decode cX7_drift 112 = .ok (.idiv, 1) := by decide +kernel
theorem dX7_drift_113 : decode cX7_drift 113 = .ok (.iconst 2, 1) := by decide +kernel
theorem dX7_drift_114 : decode cX7_drift 114 = .ok (.irem, 1) := by decide +kernel
theorem dX7_drift_115 : decode cX7_drift 115 = .ok (.iadd, 1) := by decide +kernel
theorem dX7_drift_116 : decode cX7_drift 116 = .ok (.iload 7, 2) := by decide +kernel
theorem dX7_drift_118 : decode cX7_drift 118 = .ok (.bipush 16, 2) := by decide +kernel
theorem dX7_drift_120 : decode cX7_drift 120 = .ok (.idiv, 1) := by decide +kernel
theorem dX7_drift_121 : decode cX7_drift 121 = .ok (.bipush 20, 2) := by decide +kernel
theorem dX7_drift_123 : decode cX7_drift 123 = .ok (.irem, 1) := by decide +kernel
theorem dX7_drift_124 : decode cX7_drift 124 = .ok (.iastore, 1) := by decide +kernel
theorem dX7_drift_125 : decode cX7_drift 125 = .ok (.iload 5, 2) := by decide +kernel
theorem dX7_drift_127 : decode cX7_drift 127 = .ok (.aload_n 0, 1) := by decide +kernel
theorem dX7_drift_128 : decode cX7_drift 128 = .ok (.sipush 272, 3) := by decide +kernel
theorem dX7_drift_131 : decode cX7_drift 131 = .ok (.iload 8, 2) := by decide +kernel
theorem dX7_drift_133 : decode cX7_drift 133 = .ok (.iload 7, 2) := by decide +kernel
theorem dX7_drift_135 : decode cX7_drift 135 = .ok (.sipush 512, 3) := by decide +kernel
theorem dX7_drift_138 : decode cX7_drift 138 = .ok (.idiv, 1) := by decide +kernel
theorem dX7_drift_139 : decode cX7_drift 139 = .ok (.aload_n 0, 1) := by decide +kernel
theorem dX7_drift_140 : decode cX7_drift 140 = .ok (.getfield 145, 3) := by decide +kernel
theorem dX7_drift_143 : decode cX7_drift 143 = .ok (.irem, 1) := by decide +kernel
theorem dX7_drift_144 : decode cX7_drift 144 = .ok (.invokevirtual 204, 3) := by decide +kernel
theorem dX7_drift_147 : decode cX7_drift 147 = .ok (.iconst 1, 1) := by decide +kernel
theorem dX7_drift_148 : decode cX7_drift 148 = .ok (.if_icmp .ne 7, 3) := by decide +kernel
theorem dX7_drift_151 : decode cX7_drift 151 = .ok (.iconst 1, 1) := by decide +kernel
theorem dX7_drift_152 : decode cX7_drift 152 = .ok (.goto 4, 3) := by decide +kernel
theorem dX7_drift_155 : decode cX7_drift 155 = .ok (.iconst 0, 1) := by decide +kernel
theorem dX7_drift_156 : decode cX7_drift 156 = .ok (.iadd, 1) := by decide +kernel
theorem dX7_drift_157 : decode cX7_drift 157 = .ok (.istore 5, 2) := by decide +kernel
theorem dX7_drift_159 : decode cX7_drift 159 = .ok (.iinc 6 1, 3) := by decide +kernel
theorem dX7_drift_162 : decode cX7_drift 162 = .ok (.goto (-104), 3) := by decide +kernel
theorem dX7_drift_165 : decode cX7_drift 165 = .ok (.iload_n 3, 1) := by decide +kernel
theorem dX7_drift_166 : decode cX7_drift 166 = .ok (.ifCond .ne 8, 3) := by decide +kernel
theorem dX7_drift_169 : decode cX7_drift 169 = .ok (.iload 5, 2) := by decide +kernel
theorem dX7_drift_171 : decode cX7_drift 171 = .ok (.goto 10, 3) := by decide +kernel
theorem dX7_drift_174 : decode cX7_drift 174 = .ok (.aload_n 0, 1) := by decide +kernel
theorem dX7_drift_175 : decode cX7_drift 175 = .ok (.sipush 272, 3) := by decide +kernel
theorem dX7_drift_178 : decode cX7_drift 178 = .ok (.invokevirtual 181, 3) := by decide +kernel
theorem dX7_drift_181 : decode cX7_drift 181 = .ok (.ireturn, 1) := by decide +kernel
set_option maxRecDepth 20000 in
theorem ggX7_keep_X7_in : GoodIn wsX7_keep wsX7_in := goodIn_r _ [5] (by decide +kernel) (by decide +kernel)
set_option maxRecDepth 20000 in
theorem gX7_keep_X7_in : GoodIn wsX7_keep (va_wsS RX7 52 yX7_in wsX7_in) := goodIn_app (goodIn_of _ (by decide +kernel)) ggX7_keep_X7_in
set_option maxRecDepth 20000 in
theorem ggX7_keep_X7_copies : GoodIn wsX7_keep wsX7_copies := goodIn_r _ [9, 10, 11, 12, 13, 14, 15, 16, 17, 18, 19, 20, 21, 22, 23, 24, 25, 26, 27, 28, 29, 30, 31, 32, 33, 34, 35, 36, 37, 38, 39, 40, 41, 42, 43, 44, 45, 46] (by decide +kernel) (by decide +kernel)
set_option maxRecDepth 20000 in
theorem gX7_keep_X7_copies : GoodIn wsX7_keep (wsV RX7 220 RX7 yX7_copies wsX7_copies) := goodIn_app (goodIn_of _ (by decide +kernel)) ggX7_keep_X7_copies
theorem dX7_keep_0 : decode cX7_keep 0 = .ok (.iload_n 1, 1) := by decide +kernel
theorem dX7_keep_1 : decode cX7_keep 1 = .ok (.i2l, 1) := by decide +kernel
theorem dX7_keep_2 : decode cX7_keep 2 = .ok (.lconst 0, 1) := by decide +kernel
theorem dX7_keep_3 : decode cX7_keep 3 = .ok (.lconst 1, 1) := by decide +kernel
theorem dX7_keep_4 : decode cX7_keep 4 = .ok (.invokestatic 52, 3) := by decide +kernel
theorem dX7_keep_7 : decode cX7_keep 7 = .ok (.ifCond .ne 5, 3) := by decide +kernel
theorem dX7_keep_10 : decode cX7_keep 10 = .ok (.iconst (-1), 1) := by decide +kernel
theorem dX7_keep_11 : decode cX7_keep 11 = .ok (.ireturn, 1) := by decide +kernel
theorem dX7_keep_12 : decode cX7_keep 12 = .ok (.aload_n 0, 1) := by decide +kernel
theorem dX7_keep_13 : decode cX7_keep 13 = .ok (.iconst 0, 1) := by decide +kernel
theorem dX7_keep_14 : decode cX7_keep 14 = .ok (.bipush 68, 2) := by decide +kernel
theorem dX7_keep_16 : decode cX7_keep 16 = .ok (.iload_n 1, 1) := by decide +kernel
theorem dX7_keep_17 : decode cX7_keep 17 = .ok (.iconst 1, 1) := by decide +kernel
theorem dX7_keep_18 : decode cX7_keep 18 = .ok (.iadd, 1) := by decide +kernel
theorem dX7_keep_19 : decode cX7_keep 19 = .ok (.imul, 1) := by decide +kernel
theorem dX7_keep_20 : decode cX7_keep 20 = .ok (.invokevirtual 220, 3) := by decide +kernel
theorem dX7_keep_23 : decode cX7_keep 23 = .ok (.aload_n 0, 1) := by decide +kernel
theorem dX7_keep_24 : decode cX7_keep 24 = .ok (.getfield 37, 3) := by decide +kernel
theorem dX7_keep_27 : decode cX7_keep 27 = .ok (.iload_n 1, 1) := by decide +kernel
theorem dX7_keep_28 : decode cX7_keep 28 = .ok (.baload, 1) := by decide +kernel
theorem dX7_keep_29 : decode cX7_keep 29 = .ok (.ifCond .eq 7, 3) := by decide +kernel
theorem dX7_keep_32 : decode cX7_keep 32 = .ok (.iconst 1, 1) := by decide +kernel
theorem dX7_keep_33 : decode cX7_keep 33 = .ok (.goto 4, 3) := by decide +kernel
theorem dX7_keep_36 : decode cX7_keep 36 = .ok (.iconst 0, 1) := by decide +kernel
theorem dX7_keep_37 : decode cX7_keep 37 = .ok (.istore_n 2, 1) := by decide +kernel
theorem dX7_keep_38 : decode cX7_keep 38 = .ok (.aload_n 0, 1) := by decide +kernel
theorem dX7_keep_39 : decode cX7_keep 39 = .ok (.getfield 37, 3) := by decide +kernel
theorem dX7_keep_42 : decode cX7_keep 42 = .ok (.iload_n 1, 1) := by decide +kernel
theorem dX7_keep_43 : decode cX7_keep 43 = .ok (.iconst 1, 1) := by decide +kernel
theorem dX7_keep_44 : decode cX7_keep 44 = .ok (.bastore, 1) := by decide +kernel
theorem dX7_keep_45 : decode cX7_keep 45 = .ok (.iload_n 2, 1) := by decide +kernel
theorem dX7_keep_46 : decode cX7_keep 46 = .ok (.ireturn, 1) := by decide +kernel
set_option maxRecDepth 20000 in
theorem ggX7_back_X7_in : GoodIn wsX7_back wsX7_in := goodIn_r _ [5] (by decide +kernel) (by decide +kernel)
set_option maxRecDepth 20000 in
theorem gX7_back_X7_in : GoodIn wsX7_back (va_wsS RX7 52 yX7_in wsX7_in) := goodIn_app (goodIn_of _ (by decide +kernel)) ggX7_back_X7_in
set_option maxRecDepth 20000 in
theorem ggX7_back_X7_copies : GoodIn wsX7_back wsX7_copies := goodIn_r _ [9, 10, 16, 17, 18, 19, 20, 21, 22, 23, 24, 25, 26, 27, 28, 29, 30, 31, 32, 33, 34, 35, 36, 37, 38, 39, 40, 41, 42, 43, 44, 45, 46, 47, 48, 49, 50, 51] (by decide +kernel) (by decide +kernel)
set_option maxRecDepth 20000 in
theorem gX7_back_X7_copies : GoodIn wsX7_back (wsV RX7 220 RX7 yX7_copies wsX7_copies) := goodIn_app (goodIn_of _ (by decide +kernel)) ggX7_back_X7_copies
set_option maxRecDepth 20000 in
theorem ggX7_back_X7_lengthsOn : GoodIn wsX7_back wsX7_lengthsOn := goodIn_r _ [14, 15, 10, 16, 17, 18, 19, 20, 21, 22, 23, 24, 25, 26, 27, 28, 29, 30, 31, 32, 33, 34, 35, 36, 37, 38, 39, 40, 41, 42, 43, 44, 45, 46, 47, 48, 49, 50, 51] (by decide +kernel) (by decide +kernel)
set_option maxRecDepth 20000 in
theorem gX7_back_X7_lengthsOn : GoodIn wsX7_back (wsV RX7 181 RX7 yX7_lengthsOn wsX7_lengthsOn) := goodIn_app (goodIn_of _ (by decide +kernel)) ggX7_back_X7_lengthsOn
theorem dX7_back_0 : decode cX7_back 0 = .ok (.iload_n 1, 1) := by decide +kernel
theorem dX7_back_1 : decode cX7_back 1 = .ok (.i2l, 1) := by decide +kernel
theorem dX7_back_2 : decode cX7_back 2 = .ok (.lconst 0, 1) := by decide +kernel
theorem dX7_back_3 : decode cX7_back 3 = .ok (.lconst 1, 1) := by decide +kernel
theorem dX7_back_4 : decode cX7_back 4 = .ok (.invokestatic 52, 3) := by decide +kernel
theorem dX7_back_7 : decode cX7_back 7 = .ok (.ifCond .ne 5, 3) := by decide +kernel
theorem dX7_back_10 : decode cX7_back 10 = .ok (.iconst (-1), 1) := by decide +kernel
theorem dX7_back_11 : decode cX7_back 11 = .ok (.ireturn, 1) := by decide +kernel
theorem dX7_back_12 : decode cX7_back 12 = .ok (.aload_n 0, 1) := by decide +kernel
theorem dX7_back_13 : decode cX7_back 13 = .ok (.getfield 37, 3) := by decide +kernel
theorem dX7_back_16 : decode cX7_back 16 = .ok (.iload_n 1, 1) := by decide +kernel
theorem dX7_back_17 : decode cX7_back 17 = .ok (.baload, 1) := by decide +kernel
theorem dX7_back_18 : decode cX7_back 18 = .ok (.ifCond .ne 6, 3) := by decide +kernel
theorem dX7_back_21 : decode cX7_back 21 = .ok (.bipush (-2), 2) := by decide +kernel
theorem dX7_back_23 : decode cX7_back 23 = .ok (.ireturn, 1) := by decide +kernel
theorem dX7_back_24 : decode cX7_back 24 = .ok (.aload_n 0, 1) := by decide +kernel
theorem dX7_back_25 : decode cX7_back 25 = .ok (.bipush 68, 2) := by decide +kernel
theorem dX7_back_27 : decode cX7_back 27 = .ok (.iload_n 1, 1) := by decide +kernel
theorem dX7_back_28 : decode cX7_back 28 = .ok (.iconst 1, 1) := by decide +kernel
theorem dX7_back_29 : decode cX7_back 29 = .ok (.iadd, 1) := by decide +kernel
theorem dX7_back_30 : decode cX7_back 30 = .ok (.imul, 1) := by decide +kernel
theorem dX7_back_31 : decode cX7_back 31 = .ok (.iconst 0, 1) := by decide +kernel
theorem dX7_back_32 : decode cX7_back 32 = .ok (.invokevirtual 220, 3) := by decide +kernel
theorem dX7_back_35 : decode cX7_back 35 = .ok (.aload_n 0, 1) := by decide +kernel
theorem dX7_back_36 : decode cX7_back 36 = .ok (.iconst 0, 1) := by decide +kernel
theorem dX7_back_37 : decode cX7_back 37 = .ok (.invokevirtual 181, 3) := by decide +kernel
theorem dX7_back_40 : decode cX7_back 40 = .ok (.ireturn, 1) := by decide +kernel
set_option maxRecDepth 20000 in
theorem ggX7_sheet_X7_in : GoodIn wsX7_sheet wsX7_in := goodIn_r _ [9] (by decide +kernel) (by decide +kernel)
set_option maxRecDepth 20000 in
theorem gX7_sheet_X7_in : GoodIn wsX7_sheet (va_wsS RX7 52 yX7_in wsX7_in) := goodIn_app (goodIn_of _ (by decide +kernel)) ggX7_sheet_X7_in
theorem dX7_sheet_0 : decode cX7_sheet 0 = .ok (.iload_n 1, 1) := by decide +kernel
theorem dX7_sheet_1 : decode cX7_sheet 1 = .ok (.i2l, 1) := by decide +kernel
theorem dX7_sheet_2 : decode cX7_sheet 2 = .ok (.lconst 0, 1) := by decide +kernel
theorem dX7_sheet_3 : decode cX7_sheet 3 = .ok (.ldc2_w 101, 3) := by decide +kernel
theorem dX7_sheet_6 : decode cX7_sheet 6 = .ok (.invokestatic 52, 3) := by decide +kernel
theorem dX7_sheet_9 : decode cX7_sheet 9 = .ok (.ifCond .eq 21, 3) := by decide +kernel
theorem dX7_sheet_12 : decode cX7_sheet 12 = .ok (.iload_n 2, 1) := by decide +kernel
theorem dX7_sheet_13 : decode cX7_sheet 13 = .ok (.i2l, 1) := by decide +kernel
theorem dX7_sheet_14 : decode cX7_sheet 14 = .ok (.lconst 0, 1) := by decide +kernel
theorem dX7_sheet_15 : decode cX7_sheet 15 = .ok (.ldc2_w 223, 3) := by decide +kernel
theorem dX7_sheet_18 : decode cX7_sheet 18 = .ok (.invokestatic 52, 3) := by decide +kernel
theorem dX7_sheet_21 : decode cX7_sheet 21 = .ok (.ifCond .eq 9, 3) := by decide +kernel
theorem dX7_sheet_24 : decode cX7_sheet 24 = .ok (.iload_n 3, 1) := by decide +kernel
theorem dX7_sheet_25 : decode cX7_sheet 25 = .ok (.bipush 40, 2) := by decide +kernel
theorem dX7_sheet_27 : decode cX7_sheet 27 = .ok (.if_icmp .le 5, 3) := by decide +kernel
theorem dX7_sheet_30 : decode cX7_sheet 30 = .ok (.iconst (-1), 1) := by decide +kernel
theorem dX7_sheet_31 : decode cX7_sheet 31 = .ok (.ireturn, 1) := by decide +kernel
theorem dX7_sheet_32 : decode cX7_sheet 32 = .ok (.iload_n 3, 1) := by decide +kernel
theorem dX7_sheet_33 : decode cX7_sheet 33 = .ok (.ifCond .ge 6, 3) := by decide +kernel
theorem dX7_sheet_36 : decode cX7_sheet 36 = .ok (.bipush (-14), 2) := by decide +kernel
theorem dX7_sheet_38 : decode cX7_sheet 38 = .ok (.ireturn, 1) := by decide +kernel
theorem dX7_sheet_39 : decode cX7_sheet 39 = .ok (.aload_n 0, 1) := by decide +kernel
theorem dX7_sheet_40 : decode cX7_sheet 40 = .ok (.getfield 41, 3) := by decide +kernel
theorem dX7_sheet_43 : decode cX7_sheet 43 = .ok (.iload_n 1, 1) := by decide +kernel
theorem dX7_sheet_44 : decode cX7_sheet 44 = .ok (.iload_n 2, 1) := by decide +kernel
theorem dX7_sheet_45 : decode cX7_sheet 45 = .ok (.iastore, 1) := by decide +kernel
theorem dX7_sheet_46 : decode cX7_sheet 46 = .ok (.aload_n 0, 1) := by decide +kernel
theorem dX7_sheet_47 : decode cX7_sheet 47 = .ok (.getfield 44, 3) := by decide +kernel
theorem dX7_sheet_50 : decode cX7_sheet 50 = .ok (.iload_n 1, 1) := by decide +kernel
theorem dX7_sheet_51 : decode cX7_sheet 51 = .ok (.iload_n 3, 1) := by decide +kernel
theorem dX7_sheet_52 : decode cX7_sheet 52 = .ok (.iastore, 1) := by decide +kernel
theorem dX7_sheet_53 : decode cX7_sheet 53 = .ok (.iconst 0, 1) := by decide +kernel
theorem dX7_sheet_54 : decode cX7_sheet 54 = .ok (.istore 4, 2) := by decide +kernel
theorem dX7_sheet_56 : decode cX7_sheet 56 = .ok (.iload 4, 2) := by decide +kernel
theorem dX7_sheet_58 : decode cX7_sheet 58 = .ok (.bipush 40, 2) := by decide +kernel
theorem dX7_sheet_60 : decode cX7_sheet 60 = .ok (.if_icmp .ge 22, 3) := by decide +kernel
theorem dX7_sheet_63 : decode cX7_sheet 63 = .ok (.aload_n 0, 1) := by decide +kernel
theorem dX7_sheet_64 : decode cX7_sheet 64 = .ok (.getfield 47, 3) := by decide +kernel
theorem dX7_sheet_67 : decode cX7_sheet 67 = .ok (.bipush 40, 2) := by decide +kernel
theorem dX7_sheet_69 : decode cX7_sheet 69 = .ok (.iload_n 1, 1) := by decide +kernel
theorem dX7_sheet_70 : decode cX7_sheet 70 = .ok (.imul, 1) := by decide +kernel
theorem dX7_sheet_71 : decode cX7_sheet 71 = .ok (.iload 4, 2) := by decide +kernel
theorem dX7_sheet_73 : decode cX7_sheet 73 = .ok (.iadd, 1) := by decide +kernel
theorem dX7_sheet_74 : decode cX7_sheet 74 = .ok (.iconst 0, 1) := by decide +kernel
theorem dX7_sheet_75 : decode cX7_sheet 75 = .ok (.iastore, 1) := by decide +kernel
theorem dX7_sheet_76 : decode cX7_sheet 76 = .ok (.iinc 4 1, 3) := by decide +kernel
theorem dX7_sheet_79 : decode cX7_sheet 79 = .ok (.goto (-23), 3) := by decide +kernel
theorem dX7_sheet_82 : decode cX7_sheet 82 = .ok (.iconst 1, 1) := by decide +kernel
theorem dX7_sheet_83 : decode cX7_sheet 83 = .ok (.ireturn, 1) := by decide +kernel
set_option maxRecDepth 20000 in
theorem ggX7_lay_X7_in : GoodIn wsX7_lay wsX7_in := goodIn_r _ [8] (by decide +kernel) (by decide +kernel)
set_option maxRecDepth 20000 in
theorem gX7_lay_X7_in : GoodIn wsX7_lay (va_wsS RX7 52 yX7_in wsX7_in) := goodIn_app (goodIn_of _ (by decide +kernel)) ggX7_lay_X7_in
theorem dX7_lay_0 : decode cX7_lay 0 = .ok (.iload_n 1, 1) := by decide +kernel
theorem dX7_lay_1 : decode cX7_lay 1 = .ok (.i2l, 1) := by decide +kernel
theorem dX7_lay_2 : decode cX7_lay 2 = .ok (.lconst 0, 1) := by decide +kernel
theorem dX7_lay_3 : decode cX7_lay 3 = .ok (.ldc2_w 101, 3) := by decide +kernel
theorem dX7_lay_6 : decode cX7_lay 6 = .ok (.invokestatic 52, 3) := by decide +kernel
theorem dX7_lay_9 : decode cX7_lay 9 = .ok (.ifCond .ne 5, 3) := by decide +kernel
theorem dX7_lay_12 : decode cX7_lay 12 = .ok (.iconst (-1), 1) := by decide +kernel
theorem dX7_lay_13 : decode cX7_lay 13 = .ok (.ireturn, 1) := by decide +kernel
theorem dX7_lay_14 : decode cX7_lay 14 = .ok (.aload_n 0, 1) := by decide +kernel
theorem dX7_lay_15 : decode cX7_lay 15 = .ok (.getfield 41, 3) := by decide +kernel
theorem dX7_lay_18 : decode cX7_lay 18 = .ok (.iload_n 1, 1) := by decide +kernel
theorem dX7_lay_19 : decode cX7_lay 19 = .ok (.iaload, 1) := by decide +kernel
theorem dX7_lay_20 : decode cX7_lay 20 = .ok (.bipush (-4), 2) := by decide +kernel
theorem dX7_lay_22 : decode cX7_lay 22 = .ok (.if_icmp .ne 6, 3) := by decide +kernel
theorem dX7_lay_25 : decode cX7_lay 25 = .ok (.bipush (-11), 2) := by decide +kernel
theorem dX7_lay_27 : decode cX7_lay 27 = .ok (.ireturn, 1) := by decide +kernel
theorem dX7_lay_28 : decode cX7_lay 28 = .ok (.iload_n 2, 1) := by decide +kernel
theorem dX7_lay_29 : decode cX7_lay 29 = .ok (.i2l, 1) := by decide +kernel
theorem dX7_lay_30 : decode cX7_lay 30 = .ok (.lconst 0, 1) := by decide +kernel
theorem dX7_lay_31 : decode cX7_lay 31 = .ok (.aload_n 0, 1) := by decide +kernel
theorem dX7_lay_32 : decode cX7_lay 32 = .ok (.getfield 44, 3) := by decide +kernel
theorem dX7_lay_35 : decode cX7_lay 35 = .ok (.iload_n 1, 1) := by decide +kernel
theorem dX7_lay_36 : decode cX7_lay 36 = .ok (.iaload, 1) := by decide +kernel
theorem dX7_lay_37 : decode cX7_lay 37 = .ok (.iconst 1, 1) := by decide +kernel
theorem dX7_lay_38 : decode cX7_lay 38 = .ok (.isub, 1) := by decide +kernel
theorem dX7_lay_39 : decode cX7_lay 39 = .ok (.i2l, 1) := by decide +kernel
theorem dX7_lay_40 : decode cX7_lay 40 = .ok (.invokestatic 52, 3) := by decide +kernel
theorem dX7_lay_43 : decode cX7_lay 43 = .ok (.ifCond .ne 6, 3) := by decide +kernel
theorem dX7_lay_46 : decode cX7_lay 46 = .ok (.bipush (-12), 2) := by decide +kernel
theorem dX7_lay_48 : decode cX7_lay 48 = .ok (.ireturn, 1) := by decide +kernel
theorem dX7_lay_49 : decode cX7_lay 49 = .ok (.aload_n 0, 1) := by decide +kernel
theorem dX7_lay_50 : decode cX7_lay 50 = .ok (.getfield 47, 3) := by decide +kernel
theorem dX7_lay_53 : decode cX7_lay 53 = .ok (.bipush 40, 2) := by decide +kernel
theorem dX7_lay_55 : decode cX7_lay 55 = .ok (.iload_n 1, 1) := by decide +kernel
theorem dX7_lay_56 : decode cX7_lay 56 = .ok (.imul, 1) := by decide +kernel
theorem dX7_lay_57 : decode cX7_lay 57 = .ok (.iload_n 2, 1) := by decide +kernel
theorem dX7_lay_58 : decode cX7_lay 58 = .ok (.iadd, 1) := by decide +kernel
theorem dX7_lay_59 : decode cX7_lay 59 = .ok (.aload_n 0, 1) := by decide +kernel
theorem dX7_lay_60 : decode cX7_lay 60 = .ok (.getfield 41, 3) := by decide +kernel
theorem dX7_lay_63 : decode cX7_lay 63 = .ok (.iload_n 1, 1) := by decide +kernel
theorem dX7_lay_64 : decode cX7_lay 64 = .ok (.iaload, 1) := by decide +kernel
theorem dX7_lay_65 : decode cX7_lay 65 = .ok (.ifCond .ne 13, 3) := by decide +kernel
theorem dX7_lay_68 : decode cX7_lay 68 = .ok (.iload_n 3, 1) := by decide +kernel
theorem dX7_lay_69 : decode cX7_lay 69 = .ok (.bipush 24, 2) := by decide +kernel
theorem dX7_lay_71 : decode cX7_lay 71 = .ok (.ishl, 1) := by decide +kernel
theorem dX7_lay_72 : decode cX7_lay 72 = .ok (.bipush 24, 2) := by decide +kernel
theorem dX7_lay_74 : decode cX7_lay 74 = .ok (.ishr, 1) := by decide +kernel
theorem dX7_lay_75 : decode cX7_lay 75 = .ok (.goto 24, 3) := by decide +kernel
theorem dX7_lay_78 : decode cX7_lay 78 = .ok (.aload_n 0, 1) := by decide +kernel
theorem dX7_lay_79 : decode cX7_lay 79 = .ok (.getfield 41, 3) := by decide +kernel
theorem dX7_lay_82 : decode cX7_lay 82 = .ok (.iload_n 1, 1) := by decide +kernel
theorem dX7_lay_83 : decode cX7_lay 83 = .ok (.iaload, 1) := by decide +kernel
theorem dX7_lay_84 : decode cX7_lay 84 = .ok (.iconst 1, 1) := by decide +kernel
theorem dX7_lay_85 : decode cX7_lay 85 = .ok (.if_icmp .ne 13, 3) := by decide +kernel
theorem dX7_lay_88 : decode cX7_lay 88 = .ok (.iload_n 3, 1) := by decide +kernel
theorem dX7_lay_89 : decode cX7_lay 89 = .ok (.bipush 16, 2) := by decide +kernel
theorem dX7_lay_91 : decode cX7_lay 91 = .ok (.ishl, 1) := by decide +kernel
theorem dX7_lay_92 : decode cX7_lay 92 = .ok (.bipush 16, 2) := by decide +kernel
theorem dX7_lay_94 : decode cX7_lay 94 = .ok (.ishr, 1) := by decide +kernel
theorem dX7_lay_95 : decode cX7_lay 95 = .ok (.goto 4, 3) := by decide +kernel
theorem dX7_lay_98 : decode cX7_lay 98 = .ok (.iload_n 3, 1) := by decide +kernel
theorem dX7_lay_99 : decode cX7_lay 99 = .ok (.iastore, 1) := by decide +kernel
theorem dX7_lay_100 : decode cX7_lay 100 = .ok (.iconst 1, 1) := by decide +kernel
theorem dX7_lay_101 : decode cX7_lay 101 = .ok (.ireturn, 1) := by decide +kernel
set_option maxRecDepth 20000 in
theorem ggX7_read_X7_in : GoodIn wsX7_read wsX7_in := goodIn_r _ [11] (by decide +kernel) (by decide +kernel)
set_option maxRecDepth 20000 in
theorem gX7_read_X7_in : GoodIn wsX7_read (va_wsS RX7 52 yX7_in wsX7_in) := goodIn_app (goodIn_of _ (by decide +kernel)) ggX7_read_X7_in
set_option maxRecDepth 20000 in
theorem ggX7_read_X7_copies : GoodIn wsX7_read wsX7_copies := goodIn_r _ [15, 16, 64, 65, 66, 67, 68, 69, 70, 71, 72, 73, 74, 75, 76, 77, 78, 79, 80, 81, 82, 83, 84, 85, 86, 87, 88, 89, 90, 91, 92, 93, 94, 95, 96, 97, 98, 99] (by decide +kernel) (by decide +kernel)
set_option maxRecDepth 20000 in
theorem gX7_read_X7_copies : GoodIn wsX7_read (wsV RX7 220 RX7 yX7_copies wsX7_copies) := goodIn_app (goodIn_of _ (by decide +kernel)) ggX7_read_X7_copies
set_option maxRecDepth 20000 in
theorem ggX7_read_X7_hears : GoodIn wsX7_read wsX7_hears := goodIn_r _ [20, 16, 21, 22, 23, 10, 24, 25, 26, 27, 28, 29, 8, 9, 11, 30, 31, 32, 33, 34, 35, 36, 37, 38, 39, 40, 41, 42, 43, 44, 45, 46, 47, 48, 49, 50, 51, 52, 53, 54, 55, 56, 57, 58, 59, 60, 61, 62, 63, 64, 65, 66, 67, 68, 69, 70, 71, 72, 73, 74, 75, 76, 77, 78, 79, 80, 81, 82, 83, 84, 85, 86, 87, 88, 89, 90, 91, 92, 93, 94, 95, 96, 97, 98, 99] (by decide +kernel) (by decide +kernel)
set_option maxRecDepth 20000 in
theorem gX7_read_X7_hears : GoodIn wsX7_read (wsV RX7 214 RX7 yX7_hears wsX7_hears) := goodIn_app (goodIn_of _ (by decide +kernel)) ggX7_read_X7_hears
theorem dX7_read_0 : decode cX7_read 0 = .ok (.iload_n 1, 1) := by decide +kernel
theorem dX7_read_1 : decode cX7_read 1 = .ok (.i2l, 1) := by decide +kernel
theorem dX7_read_2 : decode cX7_read 2 = .ok (.lconst 0, 1) := by decide +kernel
theorem dX7_read_3 : decode cX7_read 3 = .ok (.ldc2_w 101, 3) := by decide +kernel
theorem dX7_read_6 : decode cX7_read 6 = .ok (.invokestatic 52, 3) := by decide +kernel
theorem dX7_read_9 : decode cX7_read 9 = .ok (.ifCond .eq 28, 3) := by decide +kernel
theorem dX7_read_12 : decode cX7_read 12 = .ok (.iload_n 2, 1) := by decide +kernel
theorem dX7_read_13 : decode cX7_read 13 = .ok (.i2l, 1) := by decide +kernel
theorem dX7_read_14 : decode cX7_read 14 = .ok (.lconst 0, 1) := by decide +kernel
theorem dX7_read_15 : decode cX7_read 15 = .ok (.ldc2_w 223, 3) := by decide +kernel
theorem dX7_read_18 : decode cX7_read 18 = .ok (.invokestatic 52, 3) := by decide +kernel
theorem dX7_read_21 : decode cX7_read 21 = .ok (.ifCond .eq 16, 3) := by decide +kernel
theorem dX7_read_24 : decode cX7_read 24 = .ok (.iload 4, 2) := by decide +kernel
theorem dX7_read_26 : decode cX7_read 26 = .ok (.i2l, 1) := by decide +kernel
theorem dX7_read_27 : decode cX7_read 27 = .ok (.lconst 0, 1) := by decide +kernel
theorem dX7_read_28 : decode cX7_read 28 = .ok (.ldc2_w 202, 3) := by decide +kernel
theorem dX7_read_31 : decode cX7_read 31 = .ok (.invokestatic 52, 3) := by decide +kernel
theorem dX7_read_34 : decode cX7_read 34 = .ok (.ifCond .ne 5, 3) := by decide +kernel
theorem dX7_read_37 : decode cX7_read 37 = .ok (.iconst (-1), 1) := by decide +kernel
theorem dX7_read_38 : decode cX7_read 38 = .ok (.ireturn, 1) := by decide +kernel
theorem dX7_read_39 : decode cX7_read 39 = .ok (.aload_n 0, 1) := by decide +kernel
theorem dX7_read_40 : decode cX7_read 40 = .ok (.iconst 0, 1) := by decide +kernel
theorem dX7_read_41 : decode cX7_read 41 = .ok (.sipush 204, 3) := by decide +kernel
theorem dX7_read_44 : decode cX7_read 44 = .ok (.invokevirtual 220, 3) := by decide +kernel
theorem dX7_read_47 : decode cX7_read 47 = .ok (.iconst 0, 1) := by decide +kernel
theorem dX7_read_48 : decode cX7_read 48 = .ok (.istore 5, 2) := by decide +kernel
theorem dX7_read_50 : decode cX7_read 50 = .ok (.iconst 0, 1) := by decide +kernel
theorem dX7_read_51 : decode cX7_read 51 = .ok (.istore 6, 2) := by decide +kernel
theorem dX7_read_53 : decode cX7_read 53 = .ok (.iconst 0, 1) := by decide +kernel
theorem dX7_read_54 : decode cX7_read 54 = .ok (.istore 7, 2) := by decide +kernel
theorem dX7_read_56 : decode cX7_read 56 = .ok (.iload 7, 2) := by decide +kernel
theorem dX7_read_58 : decode cX7_read 58 = .ok (.iconst 2, 1) := by decide +kernel
theorem dX7_read_59 : decode cX7_read 59 = .ok (.iload 4, 2) := by decide +kernel
theorem dX7_read_61 : decode cX7_read 61 = .ok (.imul, 1) := by decide +kernel
theorem dX7_read_62 : decode cX7_read 62 = .ok (.if_icmp .ge 136, 3) := by decide +kernel
theorem dX7_read_65 : decode cX7_read 65 = .ok (.iload 5, 2) := by decide +kernel
theorem dX7_read_67 : decode cX7_read 67 = .ok (.ifCond .ne 131, 3) := by decide +kernel
theorem dX7_read_70 : decode cX7_read 70 = .ok (.aload_n 0, 1) := by decide +kernel
theorem dX7_read_71 : decode cX7_read 71 = .ok (.getfield 41, 3) := by decide +kernel
theorem dX7_read_74 : decode cX7_read 74 = .ok (.iload_n 1, 1) := by decide +kernel
theorem dX7_read_75 : decode cX7_read 75 = .ok (.iaload, 1) := by decide +kernel
theorem dX7_read_76 : decode cX7_read 76 = .ok (.bipush (-4), 2) := by decide +kernel
theorem dX7_read_78 : decode cX7_read 78 = .ok (.if_icmp .ne 7, 3) := by decide +kernel
theorem dX7_read_81 : decode cX7_read 81 = .ok (.iconst 1, 1) := by decide +kernel
theorem dX7_read_82 : decode cX7_read 82 = .ok (.goto 44, 3) := by decide +kernel
theorem dX7_read_85 : decode cX7_read 85 = .ok (.aload_n 0, 1) := by decide +kernel
theorem dX7_read_86 : decode cX7_read 86 = .ok (.getfield 41, 3) := by decide +kernel
theorem dX7_read_89 : decode cX7_read 89 = .ok (.iload_n 1, 1) := by decide +kernel
theorem dX7_read_90 : decode cX7_read 90 = .ok (.iaload, 1) := by decide +kernel
theorem dX7_read_91 : decode cX7_read 91 = .ok (.iload_n 2, 1) := by decide +kernel
theorem dX7_read_92 : decode cX7_read 92 = .ok (.if_icmp .eq 7, 3) := by decide +kernel
theorem dX7_read_95 : decode cX7_read 95 = .ok (.iconst 3, 1) := by decide +kernel
theorem dX7_read_96 : decode cX7_read 96 = .ok (.goto 30, 3) := by decide +kernel
theorem dX7_read_99 : decode cX7_read 99 = .ok (.iload_n 3, 1) := by decide +kernel
theorem dX7_read_100 : decode cX7_read 100 = .ok (.i2l, 1) := by decide +kernel
theorem dX7_read_101 : decode cX7_read 101 = .ok (.iload 7, 2) := by decide +kernel
theorem dX7_read_103 : decode cX7_read 103 = .ok (.i2l, 1) := by decide +kernel
theorem dX7_read_104 : decode cX7_read 104 = .ok (.ladd, 1) := by decide +kernel
theorem dX7_read_105 : decode cX7_read 105 = .ok (.lconst 0, 1) := by decide +kernel
theorem dX7_read_106 : decode cX7_read 106 = .ok (.aload_n 0, 1) := by decide +kernel
theorem dX7_read_107 : decode cX7_read 107 = .ok (.getfield 44, 3) := by decide +kernel
theorem dX7_read_110 : decode cX7_read 110 = .ok (.iload_n 1, 1) := by decide +kernel
theorem dX7_read_111 : decode cX7_read 111 = .ok (.iaload, 1) := by decide +kernel
theorem dX7_read_112 : decode cX7_read 112 = .ok (.iconst 1, 1) := by decide +kernel
theorem dX7_read_113 : decode cX7_read 113 = .ok (.isub, 1) := by decide +kernel
theorem dX7_read_114 : decode cX7_read 114 = .ok (.i2l, 1) := by decide +kernel
theorem dX7_read_115 : decode cX7_read 115 = .ok (.invokestatic 52, 3) := by decide +kernel
theorem dX7_read_118 : decode cX7_read 118 = .ok (.ifCond .ne 7, 3) := by decide +kernel
theorem dX7_read_121 : decode cX7_read 121 = .ok (.iconst 2, 1) := by decide +kernel
theorem dX7_read_122 : decode cX7_read 122 = .ok (.goto 4, 3) := by decide +kernel
theorem dX7_read_125 : decode cX7_read 125 = .ok (.iconst 0, 1) := by decide +kernel
theorem dX7_read_126 : decode cX7_read 126 = .ok (.istore 5, 2) := by decide +kernel
theorem dX7_read_128 : decode cX7_read 128 = .ok (.iload 5, 2) := by decide +kernel
theorem dX7_read_130 : decode cX7_read 130 = .ok (.ifCond .ne 62, 3) := by decide +kernel
theorem dX7_read_133 : decode cX7_read 133 = .ok (.iload 7, 2) := by decide +kernel
theorem dX7_read_135 : decode cX7_read 135 = .ok (.iconst 2, 1) := by decide +kernel
theorem dX7_read_136 : decode cX7_read 136 = .ok (.irem, 1) := by decide +kernel
theorem dX7_read_137 : decode cX7_read 137 = .ok (.iconst 1, 1) := by decide +kernel
theorem dX7_read_138 : decode cX7_read 138 = .ok (.if_icmp .ne 54, 3) := by decide +kernel
theorem dX7_read_141 : decode cX7_read 141 = .ok (.bipush 40, 2) := by decide +kernel
theorem dX7_read_143 : decode cX7_read 143 = .ok (.iload_n 1, 1) := by decide +kernel
theorem dX7_read_144 : decode cX7_read 144 = .ok (.imul, 1) := by decide +kernel
theorem dX7_read_145 : decode cX7_read 145 = .ok (.iload_n 3, 1) := by decide +kernel
theorem dX7_read_146 : decode cX7_read 146 = .ok (.iadd, 1) := by decide +kernel
theorem dX7_read_147 : decode cX7_read 147 = .ok (.iload 7, 2) := by decide +kernel
theorem dX7_read_149 : decode cX7_read 149 = .ok (.iadd, 1) := by decide +kernel
theorem dX7_read_150 : decode cX7_read 150 = .ok (.istore 8, 2) := by decide +kernel
theorem dX7_read_152 : decode cX7_read 152 = .ok (.aload_n 0, 1) := by decide +kernel
theorem dX7_read_153 : decode cX7_read 153 = .ok (.aload_n 0, 1) := by decide +kernel
theorem dX7_read_154 : decode cX7_read 154 = .ok (.getfield 47, 3) := by decide +kernel
theorem dX7_read_157 : decode cX7_read 157 = .ok (.iload 8, 2) := by decide +kernel
theorem dX7_read_159 : decode cX7_read 159 = .ok (.iconst 1, 1) := by decide +kernel
theorem dX7_read_160 : decode cX7_read 160 = .ok (.isub, 1) := by decide +kernel
theorem dX7_read_161 : decode cX7_read 161 = .ok (.iaload, 1) := by decide +kernel
theorem dX7_read_162 : decode cX7_read 162 = .ok (.aload_n 0, 1) := by decide +kernel
theorem dX7_read_163 : decode cX7_read 163 = .ok (.getfield 47, 3) := by decide +kernel
theorem dX7_read_166 : decode cX7_read 166 = .ok (.iload 8, 2) := by decide +kernel
theorem dX7_read_168 : decode cX7_read 168 = .ok (.iaload, 1) := by decide +kernel
theorem dX7_read_169 : decode cX7_read 169 = .ok (.invokevirtual 214, 3) := by decide +kernel
theorem dX7_read_172 : decode cX7_read 172 = .ok (.ifCond .ge 17, 3) := by decide +kernel
theorem dX7_read_175 : decode cX7_read 175 = .ok (.aload_n 0, 1) := by decide +kernel
theorem dX7_read_176 : decode cX7_read 176 = .ok (.sipush 204, 3) := by decide +kernel
theorem dX7_read_179 : decode cX7_read 179 = .ok (.iconst 0, 1) := by decide +kernel
theorem dX7_read_180 : decode cX7_read 180 = .ok (.invokevirtual 220, 3) := by decide +kernel
theorem dX7_read_183 : decode cX7_read 183 = .ok (.bipush (-20), 2) := by decide +kernel
theorem dX7_read_185 : decode cX7_read 185 = .ok (.iload 6, 2) := by decide +kernel
theorem dX7_read_187 : decode cX7_read 187 = .ok (.isub, 1) := by decide +kernel
theorem dX7_read_188 : decode cX7_read 188 = .ok (.ireturn, 1) := by decide +kernel
theorem dX7_read_189 : decode cX7_read 189 = .ok (.iinc 6 1, 3) := by decide +kernel
theorem dX7_read_192 : decode cX7_read 192 = .ok (.iinc 7 1, 3) := by decide +kernel
theorem dX7_read_195 : decode cX7_read 195 = .ok (.goto (-139), 3) := by decide +kernel
theorem dX7_read_198 : decode cX7_read 198 = .ok (.aload_n 0, 1) := by decide +kernel
theorem dX7_read_199 : decode cX7_read 199 = .ok (.iload 5, 2) := by decide +kernel
theorem dX7_read_201 : decode cX7_read 201 = .ok (.putfield 278, 3) := by decide +kernel
theorem dX7_read_204 : decode cX7_read 204 = .ok (.iload 6, 2) := by decide +kernel
theorem dX7_read_206 : decode cX7_read 206 = .ok (.ireturn, 1) := by decide +kernel
theorem dX7_torn_0 : decode cX7_torn 0 = .ok (.aload_n 0, 1) := by decide +kernel
theorem dX7_torn_1 : decode cX7_torn 1 = .ok (.getfield 278, 3) := by decide +kernel
theorem dX7_torn_4 : decode cX7_torn 4 = .ok (.ireturn, 1) := by decide +kernel
theorem dX7_count_0 : decode cX7_count 0 = .ok (.iconst 0, 1) := by decide +kernel
theorem dX7_count_1 : decode cX7_count 1 = .ok (.istore_n 2, 1) := by decide +kernel
theorem dX7_count_2 : decode cX7_count 2 = .ok (.iconst 0, 1) := by decide +kernel
theorem dX7_count_3 : decode cX7_count 3 = .ok (.istore_n 3, 1) := by decide +kernel
theorem dX7_count_4 : decode cX7_count 4 = .ok (.iconst 0, 1) := by decide +kernel
theorem dX7_count_5 : decode cX7_count 5 = .ok (.istore 4, 2) := by decide +kernel
theorem dX7_count_7 : decode cX7_count 7 = .ok (.iload 4, 2) := by decide +kernel
theorem dX7_count_9 : decode cX7_count 9 = .ok (.aload_n 0, 1) := by decide +kernel
theorem dX7_count_10 : decode cX7_count 10 = .ok (.getfield 142, 3) := by decide +kernel
theorem dX7_count_13 : decode cX7_count 13 = .ok (.if_icmp .ge 52, 3) := by decide +kernel
theorem dX7_count_16 : decode cX7_count 16 = .ok (.iload_n 2, 1) := by decide +kernel
theorem dX7_count_17 : decode cX7_count 17 = .ok (.aload_n 0, 1) := by decide +kernel
theorem dX7_count_18 : decode cX7_count 18 = .ok (.getfield 7, 3) := by decide +kernel
theorem dX7_count_21 : decode cX7_count 21 = .ok (.bipush 16, 2) := by decide +kernel
theorem dX7_count_23 : decode cX7_count 23 = .ok (.iconst 2, 1) := by decide +kernel
theorem dX7_count_24 : decode cX7_count 24 = .ok (.iload 4, 2) := by decide +kernel
theorem dX7_count_26 : decode cX7_count 26 = .ok (.imul, 1) := by decide +kernel
theorem dX7_count_27 : decode cX7_count 27 = .ok (.iadd, 1) := by decide +kernel
theorem dX7_count_28 : decode cX7_count 28 = .ok (.iaload, 1) := by decide +kernel
theorem dX7_count_29 : decode cX7_count 29 = .ok (.aload_n 0, 1) := by decide +kernel
theorem dX7_count_30 : decode cX7_count 30 = .ok (.getfield 7, 3) := by decide +kernel
theorem dX7_count_33 : decode cX7_count 33 = .ok (.bipush 16, 2) := by decide +kernel
theorem dX7_count_35 : decode cX7_count 35 = .ok (.iconst 2, 1) := by decide +kernel
theorem dX7_count_36 : decode cX7_count 36 = .ok (.iload 4, 2) := by decide +kernel
theorem dX7_count_38 : decode cX7_count 38 = .ok (.imul, 1) := by decide +kernel
theorem dX7_count_39 : decode cX7_count 39 = .ok (.iadd, 1) := by decide +kernel
theorem dX7_count_40 : decode cX7_count 40 = .ok (.iconst 1, 1) := by decide +kernel
theorem dX7_count_41 : decode cX7_count 41 = .ok (.iadd, 1) := by decide +kernel
theorem dX7_count_42 : decode cX7_count 42 = .ok (.iaload, 1) := by decide +kernel
theorem dX7_count_43 : decode cX7_count 43 = .ok (.iadd, 1) := by decide +kernel
theorem dX7_count_44 : decode cX7_count 44 = .ok (.iadd, 1) := by decide +kernel
theorem dX7_count_45 : decode cX7_count 45 = .ok (.istore_n 2, 1) := by decide +kernel
theorem dX7_count_46 : decode cX7_count 46 = .ok (.iload_n 3, 1) := by decide +kernel
theorem dX7_count_47 : decode cX7_count 47 = .ok (.aload_n 0, 1) := by decide +kernel
theorem dX7_count_48 : decode cX7_count 48 = .ok (.getfield 7, 3) := by decide +kernel
theorem dX7_count_51 : decode cX7_count 51 = .ok (.bipush 28, 2) := by decide +kernel
theorem dX7_count_53 : decode cX7_count 53 = .ok (.iload 4, 2) := by decide +kernel
theorem dX7_count_55 : decode cX7_count 55 = .ok (.iadd, 1) := by decide +kernel
theorem dX7_count_56 : decode cX7_count 56 = .ok (.iaload, 1) := by decide +kernel
theorem dX7_count_57 : decode cX7_count 57 = .ok (.iadd, 1) := by decide +kernel
theorem dX7_count_58 : decode cX7_count 58 = .ok (.istore_n 3, 1) := by decide +kernel
theorem dX7_count_59 : decode cX7_count 59 = .ok (.iinc 4 1, 3) := by decide +kernel
theorem dX7_count_62 : decode cX7_count 62 = .ok (.goto (-55), 3) := by decide +kernel
theorem dX7_count_65 : decode cX7_count 65 = .ok (.iload_n 1, 1) := by decide +kernel
theorem dX7_count_66 : decode cX7_count 66 = .ok (.tableswitch 105 0 5 #[38, 43, 73, 78, 101, 103], 38) := by decide +kernel
theorem dX7_count_104 : decode cX7_count 104 = .ok (.aload_n 0, 1) := by decide +kernel
theorem dX7_count_105 : decode cX7_count 105 = .ok (.getfield 148, 3) := by decide +kernel
theorem dX7_count_108 : decode cX7_count 108 = .ok (.ireturn, 1) := by decide +kernel
theorem dX7_count_109 : decode cX7_count 109 = .ok (.aload_n 0, 1) := by decide +kernel
theorem dX7_count_110 : decode cX7_count 110 = .ok (.getfield 37, 3) := by decide +kernel
theorem dX7_count_113 : decode cX7_count 113 = .ok (.iconst 0, 1) := by decide +kernel
theorem dX7_count_114 : decode cX7_count 114 = .ok (.baload, 1) := by decide +kernel
theorem dX7_count_115 : decode cX7_count 115 = .ok (.ifCond .eq 7, 3) := by decide +kernel
theorem dX7_count_118 : decode cX7_count 118 = .ok (.iconst 1, 1) := by decide +kernel
theorem dX7_count_119 : decode cX7_count 119 = .ok (.goto 4, 3) := by decide +kernel
theorem dX7_count_122 : decode cX7_count 122 = .ok (.iconst 0, 1) := by decide +kernel
theorem dX7_count_123 : decode cX7_count 123 = .ok (.aload_n 0, 1) := by decide +kernel
theorem dX7_count_124 : decode cX7_count 124 = .ok (.getfield 37, 3) := by decide +kernel
theorem dX7_count_127 : decode cX7_count 127 = .ok (.iconst 1, 1) := by decide +kernel
theorem dX7_count_128 : decode cX7_count 128 = .ok (.baload, 1) := by decide +kernel
theorem dX7_count_129 : decode cX7_count 129 = .ok (.ifCond .eq 7, 3) := by decide +kernel
theorem dX7_count_132 : decode cX7_count 132 = .ok (.iconst 1, 1) := by decide +kernel
theorem dX7_count_133 : decode cX7_count 133 = .ok (.goto 4, 3) := by decide +kernel
theorem dX7_count_136 : decode cX7_count 136 = .ok (.iconst 0, 1) := by decide +kernel
theorem dX7_count_137 : decode cX7_count 137 = .ok (.iadd, 1) := by decide +kernel
theorem dX7_count_138 : decode cX7_count 138 = .ok (.ireturn, 1) := by decide +kernel
theorem dX7_count_139 : decode cX7_count 139 = .ok (.aload_n 0, 1) := by decide +kernel
theorem dX7_count_140 : decode cX7_count 140 = .ok (.getfield 56, 3) := by decide +kernel
theorem dX7_count_143 : decode cX7_count 143 = .ok (.ireturn, 1) := by decide +kernel
theorem dX7_count_144 : decode cX7_count 144 = .ok (.aload_n 0, 1) := by decide +kernel
theorem dX7_count_145 : decode cX7_count 145 = .ok (.getfield 41, 3) := by decide +kernel
theorem dX7_count_148 : decode cX7_count 148 = .ok (.iconst 0, 1) := by decide +kernel
theorem dX7_count_149 : decode cX7_count 149 = .ok (.iaload, 1) := by decide +kernel
theorem dX7_count_150 : decode cX7_count 150 = .ok (.bipush (-4), 2) := by decide +kernel
theorem dX7_count_152 : decode cX7_count 152 = .ok (.if_icmp .ne 8, 3) := by decide +kernel
theorem dX7_count_155 : decode cX7_count 155 = .ok (.bipush (-4), 2) := by decide +kernel
theorem dX7_count_157 : decode cX7_count 157 = .ok (.goto 9, 3) := by decide +kernel
theorem dX7_count_160 : decode cX7_count 160 = .ok (.aload_n 0, 1) := by decide +kernel
theorem dX7_count_161 : decode cX7_count 161 = .ok (.getfield 44, 3) := by decide +kernel
theorem dX7_count_164 : decode cX7_count 164 = .ok (.iconst 0, 1) := by decide +kernel
theorem dX7_count_165 : decode cX7_count 165 = .ok (.iaload, 1) := by decide +kernel
theorem dX7_count_166 : decode cX7_count 166 = .ok (.ireturn, 1) := by decide +kernel
theorem dX7_count_167 : decode cX7_count 167 = .ok (.iload_n 2, 1) := by decide +kernel
theorem dX7_count_168 : decode cX7_count 168 = .ok (.ireturn, 1) := by decide +kernel
theorem dX7_count_169 : decode cX7_count 169 = .ok (.iload_n 3, 1) := by decide +kernel
theorem dX7_count_170 : decode cX7_count 170 = .ok (.ireturn, 1) := by decide +kernel
theorem dX7_count_171 : decode cX7_count 171 = .ok (.iconst (-1), 1) := by decide +kernel
theorem dX7_count_172 : decode cX7_count 172 = .ok (.ireturn, 1) := by decide +kernel
theorem dJ6_numberOfTrailingZeros_0f7a4_0 : decode cJ6_numberOfTrailingZeros_0f7a4 0 = .ok (.iload_n 0, 1) := by decide +kernel
theorem dJ6_numberOfTrailingZeros_0f7a4_1 : decode cJ6_numberOfTrailingZeros_0f7a4 1 = .ok (.iconst (-1), 1) := by decide +kernel
theorem dJ6_numberOfTrailingZeros_0f7a4_2 : decode cJ6_numberOfTrailingZeros_0f7a4 2 = .ok (.ixor, 1) := by decide +kernel
theorem dJ6_numberOfTrailingZeros_0f7a4_3 : decode cJ6_numberOfTrailingZeros_0f7a4 3 = .ok (.iload_n 0, 1) := by decide +kernel
theorem dJ6_numberOfTrailingZeros_0f7a4_4 : decode cJ6_numberOfTrailingZeros_0f7a4 4 = .ok (.iconst 1, 1) := by decide +kernel
theorem dJ6_numberOfTrailingZeros_0f7a4_5 : decode cJ6_numberOfTrailingZeros_0f7a4 5 = .ok (.isub, 1) := by decide +kernel
theorem dJ6_numberOfTrailingZeros_0f7a4_6 : decode cJ6_numberOfTrailingZeros_0f7a4 6 = .ok (.iand, 1) := by decide +kernel
theorem dJ6_numberOfTrailingZeros_0f7a4_7 : decode cJ6_numberOfTrailingZeros_0f7a4 7 = .ok (.istore_n 0, 1) := by decide +kernel
theorem dJ6_numberOfTrailingZeros_0f7a4_8 : decode cJ6_numberOfTrailingZeros_0f7a4 8 = .ok (.iload_n 0, 1) := by decide +kernel
theorem dJ6_numberOfTrailingZeros_0f7a4_9 : decode cJ6_numberOfTrailingZeros_0f7a4 9 = .ok (.ifCond .gt 8, 3) := by decide +kernel
theorem dJ6_numberOfTrailingZeros_0f7a4_12 : decode cJ6_numberOfTrailingZeros_0f7a4 12 = .ok (.iload_n 0, 1) := by decide +kernel
theorem dJ6_numberOfTrailingZeros_0f7a4_13 : decode cJ6_numberOfTrailingZeros_0f7a4 13 = .ok (.bipush 32, 2) := by decide +kernel
theorem dJ6_numberOfTrailingZeros_0f7a4_15 : decode cJ6_numberOfTrailingZeros_0f7a4 15 = .ok (.iand, 1) := by decide +kernel
theorem dJ6_numberOfTrailingZeros_0f7a4_16 : decode cJ6_numberOfTrailingZeros_0f7a4 16 = .ok (.ireturn, 1) := by decide +kernel
theorem dJ6_numberOfTrailingZeros_0f7a4_17 : decode cJ6_numberOfTrailingZeros_0f7a4 17 = .ok (.iconst 1, 1) := by decide +kernel
theorem dJ6_numberOfTrailingZeros_0f7a4_18 : decode cJ6_numberOfTrailingZeros_0f7a4 18 = .ok (.istore_n 1, 1) := by decide +kernel
theorem dJ6_numberOfTrailingZeros_0f7a4_19 : decode cJ6_numberOfTrailingZeros_0f7a4 19 = .ok (.iload_n 0, 1) := by decide +kernel
theorem dJ6_numberOfTrailingZeros_0f7a4_20 : decode cJ6_numberOfTrailingZeros_0f7a4 20 = .ok (.ldc_w 264, 3) := by decide +kernel
theorem dJ6_numberOfTrailingZeros_0f7a4_23 : decode cJ6_numberOfTrailingZeros_0f7a4 23 = .ok (.if_icmp .le 11, 3) := by decide +kernel
theorem dJ6_numberOfTrailingZeros_0f7a4_26 : decode cJ6_numberOfTrailingZeros_0f7a4 26 = .ok (.iinc 1 16, 3) := by decide +kernel
theorem dJ6_numberOfTrailingZeros_0f7a4_29 : decode cJ6_numberOfTrailingZeros_0f7a4 29 = .ok (.iload_n 0, 1) := by decide +kernel
theorem dJ6_numberOfTrailingZeros_0f7a4_30 : decode cJ6_numberOfTrailingZeros_0f7a4 30 = .ok (.bipush 16, 2) := by decide +kernel
theorem dJ6_numberOfTrailingZeros_0f7a4_32 : decode cJ6_numberOfTrailingZeros_0f7a4 32 = .ok (.iushr, 1) := by decide +kernel
theorem dJ6_numberOfTrailingZeros_0f7a4_33 : decode cJ6_numberOfTrailingZeros_0f7a4 33 = .ok (.istore_n 0, 1) := by decide +kernel
theorem dJ6_numberOfTrailingZeros_0f7a4_34 : decode cJ6_numberOfTrailingZeros_0f7a4 34 = .ok (.iload_n 0, 1) := by decide +kernel
theorem dJ6_numberOfTrailingZeros_0f7a4_35 : decode cJ6_numberOfTrailingZeros_0f7a4 35 = .ok (.sipush 256, 3) := by decide +kernel
theorem dJ6_numberOfTrailingZeros_0f7a4_38 : decode cJ6_numberOfTrailingZeros_0f7a4 38 = .ok (.if_icmp .le 11, 3) := by decide +kernel
theorem dJ6_numberOfTrailingZeros_0f7a4_41 : decode cJ6_numberOfTrailingZeros_0f7a4 41 = .ok (.iinc 1 8, 3) := by decide +kernel
theorem dJ6_numberOfTrailingZeros_0f7a4_44 : decode cJ6_numberOfTrailingZeros_0f7a4 44 = .ok (.iload_n 0, 1) := by decide +kernel
theorem dJ6_numberOfTrailingZeros_0f7a4_45 : decode cJ6_numberOfTrailingZeros_0f7a4 45 = .ok (.bipush 8, 2) := by decide +kernel
theorem dJ6_numberOfTrailingZeros_0f7a4_47 : decode cJ6_numberOfTrailingZeros_0f7a4 47 = .ok (.iushr, 1) := by decide +kernel
theorem dJ6_numberOfTrailingZeros_0f7a4_48 : decode cJ6_numberOfTrailingZeros_0f7a4 48 = .ok (.istore_n 0, 1) := by decide +kernel
theorem dJ6_numberOfTrailingZeros_0f7a4_49 : decode cJ6_numberOfTrailingZeros_0f7a4 49 = .ok (.iload_n 0, 1) := by decide +kernel
theorem dJ6_numberOfTrailingZeros_0f7a4_50 : decode cJ6_numberOfTrailingZeros_0f7a4 50 = .ok (.bipush 16, 2) := by decide +kernel
theorem dJ6_numberOfTrailingZeros_0f7a4_52 : decode cJ6_numberOfTrailingZeros_0f7a4 52 = .ok (.if_icmp .le 10, 3) := by decide +kernel
theorem dJ6_numberOfTrailingZeros_0f7a4_55 : decode cJ6_numberOfTrailingZeros_0f7a4 55 = .ok (.iinc 1 4, 3) := by decide +kernel
theorem dJ6_numberOfTrailingZeros_0f7a4_58 : decode cJ6_numberOfTrailingZeros_0f7a4 58 = .ok (.iload_n 0, 1) := by decide +kernel
theorem dJ6_numberOfTrailingZeros_0f7a4_59 : decode cJ6_numberOfTrailingZeros_0f7a4 59 = .ok (.iconst 4, 1) := by decide +kernel
theorem dJ6_numberOfTrailingZeros_0f7a4_60 : decode cJ6_numberOfTrailingZeros_0f7a4 60 = .ok (.iushr, 1) := by decide +kernel
theorem dJ6_numberOfTrailingZeros_0f7a4_61 : decode cJ6_numberOfTrailingZeros_0f7a4 61 = .ok (.istore_n 0, 1) := by decide +kernel
theorem dJ6_numberOfTrailingZeros_0f7a4_62 : decode cJ6_numberOfTrailingZeros_0f7a4 62 = .ok (.iload_n 0, 1) := by decide +kernel
theorem dJ6_numberOfTrailingZeros_0f7a4_63 : decode cJ6_numberOfTrailingZeros_0f7a4 63 = .ok (.iconst 4, 1) := by decide +kernel
theorem dJ6_numberOfTrailingZeros_0f7a4_64 : decode cJ6_numberOfTrailingZeros_0f7a4 64 = .ok (.if_icmp .le 10, 3) := by decide +kernel
theorem dJ6_numberOfTrailingZeros_0f7a4_67 : decode cJ6_numberOfTrailingZeros_0f7a4 67 = .ok (.iinc 1 2, 3) := by decide +kernel
theorem dJ6_numberOfTrailingZeros_0f7a4_70 : decode cJ6_numberOfTrailingZeros_0f7a4 70 = .ok (.iload_n 0, 1) := by decide +kernel
theorem dJ6_numberOfTrailingZeros_0f7a4_71 : decode cJ6_numberOfTrailingZeros_0f7a4 71 = .ok (.iconst 2, 1) := by decide +kernel
theorem dJ6_numberOfTrailingZeros_0f7a4_72 : decode cJ6_numberOfTrailingZeros_0f7a4 72 = .ok (.iushr, 1) := by decide +kernel
theorem dJ6_numberOfTrailingZeros_0f7a4_73 : decode cJ6_numberOfTrailingZeros_0f7a4 73 = .ok (.istore_n 0, 1) := by decide +kernel
theorem dJ6_numberOfTrailingZeros_0f7a4_74 : decode cJ6_numberOfTrailingZeros_0f7a4 74 = .ok (.iload_n 1, 1) := by decide +kernel
theorem dJ6_numberOfTrailingZeros_0f7a4_75 : decode cJ6_numberOfTrailingZeros_0f7a4 75 = .ok (.iload_n 0, 1) := by decide +kernel
theorem dJ6_numberOfTrailingZeros_0f7a4_76 : decode cJ6_numberOfTrailingZeros_0f7a4 76 = .ok (.iconst 1, 1) := by decide +kernel
theorem dJ6_numberOfTrailingZeros_0f7a4_77 : decode cJ6_numberOfTrailingZeros_0f7a4 77 = .ok (.iushr, 1) := by decide +kernel
theorem dJ6_numberOfTrailingZeros_0f7a4_78 : decode cJ6_numberOfTrailingZeros_0f7a4 78 = .ok (.iadd, 1) := by decide +kernel
theorem dJ6_numberOfTrailingZeros_0f7a4_79 : decode cJ6_numberOfTrailingZeros_0f7a4 79 = .ok (.ireturn, 1) := by decide +kernel
theorem dJ6_bitCount_0f7a4_0 : decode cJ6_bitCount_0f7a4 0 = .ok (.iload_n 0, 1) := by decide +kernel
theorem dJ6_bitCount_0f7a4_1 : decode cJ6_bitCount_0f7a4 1 = .ok (.iload_n 0, 1) := by decide +kernel
theorem dJ6_bitCount_0f7a4_2 : decode cJ6_bitCount_0f7a4 2 = .ok (.iconst 1, 1) := by decide +kernel
theorem dJ6_bitCount_0f7a4_3 : decode cJ6_bitCount_0f7a4 3 = .ok (.iushr, 1) := by decide +kernel
theorem dJ6_bitCount_0f7a4_4 : decode cJ6_bitCount_0f7a4 4 = .ok (.ldc_w 265, 3) := by decide +kernel
theorem dJ6_bitCount_0f7a4_7 : decode cJ6_bitCount_0f7a4 7 = .ok (.iand, 1) := by decide +kernel
theorem dJ6_bitCount_0f7a4_8 : decode cJ6_bitCount_0f7a4 8 = .ok (.isub, 1) := by decide +kernel
theorem dJ6_bitCount_0f7a4_9 : decode cJ6_bitCount_0f7a4 9 = .ok (.istore_n 0, 1) := by decide +kernel
theorem dJ6_bitCount_0f7a4_10 : decode cJ6_bitCount_0f7a4 10 = .ok (.iload_n 0, 1) := by decide +kernel
theorem dJ6_bitCount_0f7a4_11 : decode cJ6_bitCount_0f7a4 11 = .ok (.ldc_w 266, 3) := by decide +kernel
theorem dJ6_bitCount_0f7a4_14 : decode cJ6_bitCount_0f7a4 14 = .ok (.iand, 1) := by decide +kernel
theorem dJ6_bitCount_0f7a4_15 : decode cJ6_bitCount_0f7a4 15 = .ok (.iload_n 0, 1) := by decide +kernel
theorem dJ6_bitCount_0f7a4_16 : decode cJ6_bitCount_0f7a4 16 = .ok (.iconst 2, 1) := by decide +kernel
theorem dJ6_bitCount_0f7a4_17 : decode cJ6_bitCount_0f7a4 17 = .ok (.iushr, 1) := by decide +kernel
theorem dJ6_bitCount_0f7a4_18 : decode cJ6_bitCount_0f7a4 18 = .ok (.ldc_w 266, 3) := by decide +kernel
theorem dJ6_bitCount_0f7a4_21 : decode cJ6_bitCount_0f7a4 21 = .ok (.iand, 1) := by decide +kernel
theorem dJ6_bitCount_0f7a4_22 : decode cJ6_bitCount_0f7a4 22 = .ok (.iadd, 1) := by decide +kernel
theorem dJ6_bitCount_0f7a4_23 : decode cJ6_bitCount_0f7a4 23 = .ok (.istore_n 0, 1) := by decide +kernel
theorem dJ6_bitCount_0f7a4_24 : decode cJ6_bitCount_0f7a4 24 = .ok (.iload_n 0, 1) := by decide +kernel
theorem dJ6_bitCount_0f7a4_25 : decode cJ6_bitCount_0f7a4 25 = .ok (.iload_n 0, 1) := by decide +kernel
theorem dJ6_bitCount_0f7a4_26 : decode cJ6_bitCount_0f7a4 26 = .ok (.iconst 4, 1) := by decide +kernel
theorem dJ6_bitCount_0f7a4_27 : decode cJ6_bitCount_0f7a4 27 = .ok (.iushr, 1) := by decide +kernel
theorem dJ6_bitCount_0f7a4_28 : decode cJ6_bitCount_0f7a4 28 = .ok (.iadd, 1) := by decide +kernel
theorem dJ6_bitCount_0f7a4_29 : decode cJ6_bitCount_0f7a4 29 = .ok (.ldc_w 267, 3) := by decide +kernel
theorem dJ6_bitCount_0f7a4_32 : decode cJ6_bitCount_0f7a4 32 = .ok (.iand, 1) := by decide +kernel
theorem dJ6_bitCount_0f7a4_33 : decode cJ6_bitCount_0f7a4 33 = .ok (.istore_n 0, 1) := by decide +kernel
theorem dJ6_bitCount_0f7a4_34 : decode cJ6_bitCount_0f7a4 34 = .ok (.iload_n 0, 1) := by decide +kernel
theorem dJ6_bitCount_0f7a4_35 : decode cJ6_bitCount_0f7a4 35 = .ok (.iload_n 0, 1) := by decide +kernel
theorem dJ6_bitCount_0f7a4_36 : decode cJ6_bitCount_0f7a4 36 = .ok (.bipush 8, 2) := by decide +kernel
theorem dJ6_bitCount_0f7a4_38 : decode cJ6_bitCount_0f7a4 38 = .ok (.iushr, 1) := by decide +kernel
theorem dJ6_bitCount_0f7a4_39 : decode cJ6_bitCount_0f7a4 39 = .ok (.iadd, 1) := by decide +kernel
theorem dJ6_bitCount_0f7a4_40 : decode cJ6_bitCount_0f7a4 40 = .ok (.istore_n 0, 1) := by decide +kernel
theorem dJ6_bitCount_0f7a4_41 : decode cJ6_bitCount_0f7a4 41 = .ok (.iload_n 0, 1) := by decide +kernel
theorem dJ6_bitCount_0f7a4_42 : decode cJ6_bitCount_0f7a4 42 = .ok (.iload_n 0, 1) := by decide +kernel
theorem dJ6_bitCount_0f7a4_43 : decode cJ6_bitCount_0f7a4 43 = .ok (.bipush 16, 2) := by decide +kernel
theorem dJ6_bitCount_0f7a4_45 : decode cJ6_bitCount_0f7a4 45 = .ok (.iushr, 1) := by decide +kernel
theorem dJ6_bitCount_0f7a4_46 : decode cJ6_bitCount_0f7a4 46 = .ok (.iadd, 1) := by decide +kernel
theorem dJ6_bitCount_0f7a4_47 : decode cJ6_bitCount_0f7a4 47 = .ok (.istore_n 0, 1) := by decide +kernel
theorem dJ6_bitCount_0f7a4_48 : decode cJ6_bitCount_0f7a4 48 = .ok (.iload_n 0, 1) := by decide +kernel
theorem dJ6_bitCount_0f7a4_49 : decode cJ6_bitCount_0f7a4 49 = .ok (.bipush 63, 2) := by decide +kernel
theorem dJ6_bitCount_0f7a4_51 : decode cJ6_bitCount_0f7a4 51 = .ok (.iand, 1) := by decide +kernel
theorem dJ6_bitCount_0f7a4_52 : decode cJ6_bitCount_0f7a4 52 = .ok (.ireturn, 1) := by decide +kernel
theorem dJ9_max_7cf53_0 : decode cJ9_max_7cf53 0 = .ok (.iload_n 0, 1) := by decide +kernel
theorem dJ9_max_7cf53_1 : decode cJ9_max_7cf53 1 = .ok (.iload_n 1, 1) := by decide +kernel
theorem dJ9_max_7cf53_2 : decode cJ9_max_7cf53 2 = .ok (.if_icmp .lt 7, 3) := by decide +kernel
theorem dJ9_max_7cf53_5 : decode cJ9_max_7cf53 5 = .ok (.iload_n 0, 1) := by decide +kernel
theorem dJ9_max_7cf53_6 : decode cJ9_max_7cf53 6 = .ok (.goto 4, 3) := by decide +kernel
theorem dJ9_max_7cf53_9 : decode cJ9_max_7cf53 9 = .ok (.iload_n 1, 1) := by decide +kernel
theorem dJ9_max_7cf53_10 : decode cJ9_max_7cf53 10 = .ok (.ireturn, 1) := by decide +kernel
theorem dJ9_min_7cf53_0 : decode cJ9_min_7cf53 0 = .ok (.iload_n 0, 1) := by decide +kernel
theorem dJ9_min_7cf53_1 : decode cJ9_min_7cf53 1 = .ok (.iload_n 1, 1) := by decide +kernel
theorem dJ9_min_7cf53_2 : decode cJ9_min_7cf53 2 = .ok (.if_icmp .gt 7, 3) := by decide +kernel
theorem dJ9_min_7cf53_5 : decode cJ9_min_7cf53 5 = .ok (.iload_n 0, 1) := by decide +kernel
theorem dJ9_min_7cf53_6 : decode cJ9_min_7cf53 6 = .ok (.goto 4, 3) := by decide +kernel
theorem dJ9_min_7cf53_9 : decode cJ9_min_7cf53 9 = .ok (.iload_n 1, 1) := by decide +kernel
theorem dJ9_min_7cf53_10 : decode cJ9_min_7cf53 10 = .ok (.ireturn, 1) := by decide +kernel
set_option maxRecDepth 20000 in
theorem ggJ0_length_8abf5_J0_coder_7d493 : GoodIn wsJ0_length_8abf5 wsJ0_coder_7d493 := goodIn_r _ [6, 7, 8] (by decide +kernel) (by decide +kernel)
set_option maxRecDepth 20000 in
theorem gJ0_length_8abf5_J0_coder_7d493 : GoodIn wsJ0_length_8abf5 (wsV RJ0 335 RJ0 yJ0_coder_7d493 wsJ0_coder_7d493) := goodIn_app (goodIn_of _ (by decide +kernel)) ggJ0_length_8abf5_J0_coder_7d493
theorem dJ0_length_8abf5_0 : decode cJ0_length_8abf5 0 = .ok (.aload_n 0, 1) := by decide +kernel
theorem dJ0_length_8abf5_1 : decode cJ0_length_8abf5 1 = .ok (.getfield 9, 3) := by decide +kernel
theorem dJ0_length_8abf5_4 : decode cJ0_length_8abf5 4 = .ok (.arraylength, 1) := by decide +kernel
theorem dJ0_length_8abf5_5 : decode cJ0_length_8abf5 5 = .ok (.aload_n 0, 1) := by decide +kernel
theorem dJ0_length_8abf5_6 : decode cJ0_length_8abf5 6 = .ok (.invokevirtual 335, 3) := by decide +kernel
theorem dJ0_length_8abf5_9 : decode cJ0_length_8abf5 9 = .ok (.ishr, 1) := by decide +kernel
theorem dJ0_length_8abf5_10 : decode cJ0_length_8abf5 10 = .ok (.ireturn, 1) := by decide +kernel
set_option maxRecDepth 20000 in
theorem ggJ0_charAt_5068e_J0_isLatin1_aae02 : GoodIn wsJ0_charAt_5068e wsJ0_isLatin1_aae02 := goodIn_r _ [6, 7, 8] (by decide +kernel) (by decide +kernel)
set_option maxRecDepth 20000 in
theorem gJ0_charAt_5068e_J0_isLatin1_aae02 : GoodIn wsJ0_charAt_5068e (wsV RJ0 492 RJ0 yJ0_isLatin1_aae02 wsJ0_isLatin1_aae02) := goodIn_app (goodIn_of _ (by decide +kernel)) ggJ0_charAt_5068e_J0_isLatin1_aae02
set_option maxRecDepth 20000 in
theorem ggJ0_charAt_5068e_J1_charAt_3b067 : GoodIn wsJ0_charAt_5068e wsJ1_charAt_3b067 := goodIn_r _ [12, 13, 14, 5, 15, 16, 17, 18, 19, 20] (by decide +kernel) (by decide +kernel)
set_option maxRecDepth 20000 in
theorem gJ0_charAt_5068e_J1_charAt_3b067 : GoodIn wsJ0_charAt_5068e (va_wsS RJ0 495 yJ1_charAt_3b067 wsJ1_charAt_3b067) := goodIn_app (goodIn_of _ (by decide +kernel)) ggJ0_charAt_5068e_J1_charAt_3b067
set_option maxRecDepth 20000 in
theorem ggJ0_charAt_5068e_J2_charAt_3b067 : GoodIn wsJ0_charAt_5068e wsJ2_charAt_3b067 := goodIn_r _ [24, 25, 26, 23, 27, 28, 29, 30, 31, 14, 5, 15, 16, 17, 18, 19, 20, 32, 33, 34, 35, 36, 37] (by decide +kernel) (by decide +kernel)
set_option maxRecDepth 20000 in
theorem gJ0_charAt_5068e_J2_charAt_3b067 : GoodIn wsJ0_charAt_5068e (va_wsS RJ0 498 yJ2_charAt_3b067 wsJ2_charAt_3b067) := goodIn_app (goodIn_of _ (by decide +kernel)) ggJ0_charAt_5068e_J2_charAt_3b067
theorem dJ0_charAt_5068e_0 : decode cJ0_charAt_5068e 0 = .ok (.aload_n 0, 1) := by decide +kernel
theorem dJ0_charAt_5068e_1 : decode cJ0_charAt_5068e 1 = .ok (.invokevirtual 492, 3) := by decide +kernel
theorem dJ0_charAt_5068e_4 : decode cJ0_charAt_5068e 4 = .ok (.ifCond .eq 12, 3) := by decide +kernel
theorem dJ0_charAt_5068e_7 : decode cJ0_charAt_5068e 7 = .ok (.aload_n 0, 1) := by decide +kernel
theorem dJ0_charAt_5068e_8 : decode cJ0_charAt_5068e 8 = .ok (.getfield 9, 3) := by decide +kernel
theorem dJ0_charAt_5068e_11 : decode cJ0_charAt_5068e 11 = .ok (.iload_n 1, 1) := by decide +kernel
theorem dJ0_charAt_5068e_12 : decode cJ0_charAt_5068e 12 = .ok (.invokestatic 495, 3) := by decide +kernel
theorem dJ0_charAt_5068e_15 : decode cJ0_charAt_5068e 15 = .ok (.ireturn, 1) := by decide +kernel
theorem dJ0_charAt_5068e_16 : decode cJ0_charAt_5068e 16 = .ok (.aload_n 0, 1) := by decide +kernel
theorem dJ0_charAt_5068e_17 : decode cJ0_charAt_5068e 17 = .ok (.getfield 9, 3) := by decide +kernel
theorem dJ0_charAt_5068e_20 : decode cJ0_charAt_5068e 20 = .ok (.iload_n 1, 1) := by decide +kernel
theorem dJ0_charAt_5068e_21 : decode cJ0_charAt_5068e 21 = .ok (.invokestatic 498, 3) := by decide +kernel
theorem dJ0_charAt_5068e_24 : decode cJ0_charAt_5068e 24 = .ok (.ireturn, 1) := by decide +kernel
theorem dJ0_coder_7d493_0 : decode cJ0_coder_7d493 0 = .ok (.getstatic 38, 3) := by decide +kernel
theorem dJ0_coder_7d493_3 : decode cJ0_coder_7d493 3 = .ok (.ifCond .eq 10, 3) := by decide +kernel
theorem dJ0_coder_7d493_6 : decode cJ0_coder_7d493 6 = .ok (.aload_n 0, 1) := by decide +kernel
theorem dJ0_coder_7d493_7 : decode cJ0_coder_7d493 7 = .ok (.getfield 15, 3) := by decide +kernel
theorem dJ0_coder_7d493_10 : decode cJ0_coder_7d493 10 = .ok (.goto 4, 3) := by decide +kernel
theorem dJ0_coder_7d493_13 : decode cJ0_coder_7d493 13 = .ok (.iconst 1, 1) := by decide +kernel
theorem dJ0_coder_7d493_14 : decode cJ0_coder_7d493 14 = .ok (.ireturn, 1) := by decide +kernel
theorem dJ0_isLatin1_aae02_0 : decode cJ0_isLatin1_aae02 0 = .ok (.getstatic 38, 3) := by decide +kernel
theorem dJ0_isLatin1_aae02_3 : decode cJ0_isLatin1_aae02 3 = .ok (.ifCond .eq 14, 3) := by decide +kernel
theorem dJ0_isLatin1_aae02_6 : decode cJ0_isLatin1_aae02 6 = .ok (.aload_n 0, 1) := by decide +kernel
theorem dJ0_isLatin1_aae02_7 : decode cJ0_isLatin1_aae02 7 = .ok (.getfield 15, 3) := by decide +kernel
theorem dJ0_isLatin1_aae02_10 : decode cJ0_isLatin1_aae02 10 = .ok (.ifCond .ne 7, 3) := by decide +kernel
theorem dJ0_isLatin1_aae02_13 : decode cJ0_isLatin1_aae02 13 = .ok (.iconst 1, 1) := by decide +kernel
theorem dJ0_isLatin1_aae02_14 : decode cJ0_isLatin1_aae02 14 = .ok (.goto 4, 3) := by decide +kernel
theorem dJ0_isLatin1_aae02_17 : decode cJ0_isLatin1_aae02 17 = .ok (.iconst 0, 1) := by decide +kernel
theorem dJ0_isLatin1_aae02_18 : decode cJ0_isLatin1_aae02 18 = .ok (.ireturn, 1) := by decide +kernel
set_option maxRecDepth 20000 in
theorem ggJ0_checkIndex_df160_J3_checkIndex_8e157 : GoodIn wsJ0_checkIndex_df160 wsJ3_checkIndex_8e157 := goodIn_r _ [5] (by decide +kernel) (by decide +kernel)
set_option maxRecDepth 20000 in
theorem gJ0_checkIndex_df160_J3_checkIndex_8e157 : GoodIn wsJ0_checkIndex_df160 (va_wsS RJ0 1059 yJ3_checkIndex_8e157 wsJ3_checkIndex_8e157) := goodIn_app (goodIn_of _ (by decide +kernel)) ggJ0_checkIndex_df160_J3_checkIndex_8e157
theorem dJ0_checkIndex_df160_0 : decode cJ0_checkIndex_df160 0 = .ok (.iload_n 0, 1) := by decide +kernel
theorem dJ0_checkIndex_df160_1 : decode cJ0_checkIndex_df160 1 = .ok (.iload_n 1, 1) := by decide +kernel
theorem dJ0_checkIndex_df160_2 : decode cJ0_checkIndex_df160 2 = .ok (.getstatic 1053, 3) := by decide +kernel
theorem dJ0_checkIndex_df160_5 : decode cJ0_checkIndex_df160 5 = .ok (.invokestatic 1059, 3) := by decide +kernel
theorem dJ0_checkIndex_df160_8 : decode cJ0_checkIndex_df160 8 = .ok (.pop, 1) := by decide +kernel
theorem dJ0_checkIndex_df160_9 : decode cJ0_checkIndex_df160 9 = .ok (.return_, 1) := by decide +kernel
set_option maxRecDepth 20000 in
theorem ggJ1_charAt_3b067_J0_checkIndex_df160 : GoodIn wsJ1_charAt_3b067 wsJ0_checkIndex_df160 := goodIn_r _ [4, 5, 6, 7, 8, 9] (by decide +kernel) (by decide +kernel)
set_option maxRecDepth 20000 in
theorem gJ1_charAt_3b067_J0_checkIndex_df160 : GoodIn wsJ1_charAt_3b067 (va_wsS RJ1 9 yJ0_checkIndex_df160 wsJ0_checkIndex_df160) := goodIn_app (goodIn_of _ (by decide +kernel)) ggJ1_charAt_3b067_J0_checkIndex_df160
theorem dJ1_charAt_3b067_0 : decode cJ1_charAt_3b067 0 = .ok (.iload_n 1, 1) := by decide +kernel
theorem dJ1_charAt_3b067_1 : decode cJ1_charAt_3b067 1 = .ok (.aload_n 0, 1) := by decide +kernel
theorem dJ1_charAt_3b067_2 : decode cJ1_charAt_3b067 2 = .ok (.arraylength, 1) := by decide +kernel
theorem dJ1_charAt_3b067_3 : decode cJ1_charAt_3b067 3 = .ok (.invokestatic 9, 3) := by decide +kernel
theorem dJ1_charAt_3b067_6 : decode cJ1_charAt_3b067 6 = .ok (.aload_n 0, 1) := by decide +kernel
theorem dJ1_charAt_3b067_7 : decode cJ1_charAt_3b067 7 = .ok (.iload_n 1, 1) := by decide +kernel
theorem dJ1_charAt_3b067_8 : decode cJ1_charAt_3b067 8 = .ok (.baload, 1) := by decide +kernel
theorem dJ1_charAt_3b067_9 : decode cJ1_charAt_3b067 9 = .ok (.sipush 255, 3) := by decide +kernel
theorem dJ1_charAt_3b067_12 : decode cJ1_charAt_3b067 12 = .ok (.iand, 1) := by decide +kernel
theorem dJ1_charAt_3b067_13 : decode cJ1_charAt_3b067 13 = .ok (.i2c, 1) := by decide +kernel
theorem dJ1_charAt_3b067_14 : decode cJ1_charAt_3b067 14 = .ok (.ireturn, 1) := by decide +kernel
set_option maxRecDepth 20000 in
theorem ggJ2_getChar_3b067_J2_length_9d52b : GoodIn wsJ2_getChar_3b067 wsJ2_length_9d52b := goodIn_r _ [7] (by decide +kernel) (by decide +kernel)
set_option maxRecDepth 20000 in
theorem gJ2_getChar_3b067_J2_length_9d52b : GoodIn wsJ2_getChar_3b067 (va_wsS RJ2 48 yJ2_length_9d52b wsJ2_length_9d52b) := goodIn_app (goodIn_of _ (by decide +kernel)) ggJ2_getChar_3b067_J2_length_9d52b
theorem dJ2_getChar_3b067_0 : decode cJ2_getChar_3b067 0 = .ok (.getstatic 44, 3) := by decide +kernel
theorem dJ2_getChar_3b067_3 : decode cJ2_getChar_3b067 3 = .ok (.ifCond .ne 25, 3) := by decide +kernel
theorem dJ2_getChar_3b067_6 : decode cJ2_getChar_3b067 6 = .ok (.iload_n 1, 1) := by decide +kernel
theorem dJ2_getChar_3b067_7 : decode cJ2_getChar_3b067 7 = .ok (.ifCond .lt 11, 3) := by decide +kernel
theorem dJ2_getChar_3b067_10 : decode cJ2_getChar_3b067 10 = .ok (.iload_n 1, 1) := by decide +kernel
theorem dJ2_getChar_3b067_11 : decode cJ2_getChar_3b067 11 = .ok (.aload_n 0, 1) := by decide +kernel
theorem dJ2_getChar_3b067_12 : decode cJ2_getChar_3b067 12 = .ok (.invokestatic 48, 3) := by decide +kernel
theorem dJ2_getChar_3b067_15 : decode cJ2_getChar_3b067 15 = .ok (.if_icmp .lt 13, 3) := by decide +kernel
theorem dJ2_getChar_3b067_18 : decode cJ2_getChar_3b067 18 = .ok (.new 52, 3) := by decide +kernel
theorem dJ2_getChar_3b067_21 : decode cJ2_getChar_3b067 21 = .ok (.dup, 1) := by decide +kernel
theorem dJ2_getChar_3b067_22 : decode cJ2_getChar_3b067 22 = .ok (.ldc 54, 2) := by decide +kernel
theorem dJ2_getChar_3b067_24 : decode cJ2_getChar_3b067 24 = .ok (.invokespecial 56, 3) := by decide +kernel
theorem dJ2_getChar_3b067_27 : decode cJ2_getChar_3b067 27 = .ok (.athrow, 1) := by decide +kernel
theorem dJ2_getChar_3b067_28 : decode cJ2_getChar_3b067 28 = .ok (.iload_n 1, 1) := by decide +kernel
theorem dJ2_getChar_3b067_29 : decode cJ2_getChar_3b067 29 = .ok (.iconst 1, 1) := by decide +kernel
theorem dJ2_getChar_3b067_30 : decode cJ2_getChar_3b067 30 = .ok (.ishl, 1) := by decide +kernel
theorem dJ2_getChar_3b067_31 : decode cJ2_getChar_3b067 31 = .ok (.istore_n 1, 1) := by decide +kernel
theorem dJ2_getChar_3b067_32 : decode cJ2_getChar_3b067 32 = .ok (.aload_n 0, 1) := by decide +kernel
theorem dJ2_getChar_3b067_33 : decode cJ2_getChar_3b067 33 = .ok (.iload_n 1, 1) := by decide +kernel
theorem dJ2_getChar_3b067_34 : decode cJ2_getChar_3b067 34 = .ok (.iinc 1 1, 3) := by decide +kernel
theorem dJ2_getChar_3b067_37 : decode cJ2_getChar_3b067 37 = .ok (.baload, 1) := by decide +kernel
theorem dJ2_getChar_3b067_38 : decode cJ2_getChar_3b067 38 = .ok (.sipush 255, 3) := by decide +kernel
theorem dJ2_getChar_3b067_41 : decode cJ2_getChar_3b067 41 = .ok (.iand, 1) := by decide +kernel
theorem dJ2_getChar_3b067_42 : decode cJ2_getChar_3b067 42 = .ok (.getstatic 59, 3) := by decide +kernel
theorem dJ2_getChar_3b067_45 : decode cJ2_getChar_3b067 45 = .ok (.ishl, 1) := by decide +kernel
theorem dJ2_getChar_3b067_46 : decode cJ2_getChar_3b067 46 = .ok (.aload_n 0, 1) := by decide +kernel
theorem dJ2_getChar_3b067_47 : decode cJ2_getChar_3b067 47 = .ok (.iload_n 1, 1) := by decide +kernel
theorem dJ2_getChar_3b067_48 : decode cJ2_getChar_3b067 48 = .ok (.baload, 1) := by decide +kernel
theorem dJ2_getChar_3b067_49 : decode cJ2_getChar_3b067 49 = .ok (.sipush 255, 3) := by decide +kernel
theorem dJ2_getChar_3b067_52 : decode cJ2_getChar_3b067 52 = .ok (.iand, 1) := by decide +kernel
theorem dJ2_getChar_3b067_53 : decode cJ2_getChar_3b067 53 = .ok (.getstatic 63, 3) := by decide +kernel
theorem dJ2_getChar_3b067_56 : decode cJ2_getChar_3b067 56 = .ok (.ishl, 1) := by decide +kernel
theorem dJ2_getChar_3b067_57 : decode cJ2_getChar_3b067 57 = .ok (.ior, 1) := by decide +kernel
theorem dJ2_getChar_3b067_58 : decode cJ2_getChar_3b067 58 = .ok (.i2c, 1) := by decide +kernel
theorem dJ2_getChar_3b067_59 : decode cJ2_getChar_3b067 59 = .ok (.ireturn, 1) := by decide +kernel
theorem dJ2_length_9d52b_0 : decode cJ2_length_9d52b 0 = .ok (.aload_n 0, 1) := by decide +kernel
theorem dJ2_length_9d52b_1 : decode cJ2_length_9d52b 1 = .ok (.arraylength, 1) := by decide +kernel
theorem dJ2_length_9d52b_2 : decode cJ2_length_9d52b 2 = .ok (.iconst 1, 1) := by decide +kernel
theorem dJ2_length_9d52b_3 : decode cJ2_length_9d52b 3 = .ok (.ishr, 1) := by decide +kernel
theorem dJ2_length_9d52b_4 : decode cJ2_length_9d52b 4 = .ok (.ireturn, 1) := by decide +kernel
set_option maxRecDepth 20000 in
theorem ggJ2_charAt_3b067_J2_checkIndex_2214a : GoodIn wsJ2_charAt_3b067 wsJ2_checkIndex_2214a := goodIn_r _ [4, 5, 6, 3, 7, 8, 9, 10, 11, 12, 13, 14, 15, 16] (by decide +kernel) (by decide +kernel)
set_option maxRecDepth 20000 in
theorem gJ2_charAt_3b067_J2_checkIndex_2214a : GoodIn wsJ2_charAt_3b067 (va_wsS RJ2 67 yJ2_checkIndex_2214a wsJ2_checkIndex_2214a) := goodIn_app (goodIn_of _ (by decide +kernel)) ggJ2_charAt_3b067_J2_checkIndex_2214a
set_option maxRecDepth 20000 in
theorem ggJ2_charAt_3b067_J2_getChar_3b067 : GoodIn wsJ2_charAt_3b067 wsJ2_getChar_3b067 := goodIn_r _ [19, 20, 21, 22, 5, 6, 3, 7] (by decide +kernel) (by decide +kernel)
set_option maxRecDepth 20000 in
theorem gJ2_charAt_3b067_J2_getChar_3b067 : GoodIn wsJ2_charAt_3b067 (va_wsS RJ2 71 yJ2_getChar_3b067 wsJ2_getChar_3b067) := goodIn_app (goodIn_of _ (by decide +kernel)) ggJ2_charAt_3b067_J2_getChar_3b067
theorem dJ2_charAt_3b067_0 : decode cJ2_charAt_3b067 0 = .ok (.iload_n 1, 1) := by decide +kernel
theorem dJ2_charAt_3b067_1 : decode cJ2_charAt_3b067 1 = .ok (.aload_n 0, 1) := by decide +kernel
theorem dJ2_charAt_3b067_2 : decode cJ2_charAt_3b067 2 = .ok (.invokestatic 67, 3) := by decide +kernel
theorem dJ2_charAt_3b067_5 : decode cJ2_charAt_3b067 5 = .ok (.aload_n 0, 1) := by decide +kernel
theorem dJ2_charAt_3b067_6 : decode cJ2_charAt_3b067 6 = .ok (.iload_n 1, 1) := by decide +kernel
theorem dJ2_charAt_3b067_7 : decode cJ2_charAt_3b067 7 = .ok (.invokestatic 71, 3) := by decide +kernel
theorem dJ2_charAt_3b067_10 : decode cJ2_charAt_3b067 10 = .ok (.ireturn, 1) := by decide +kernel
set_option maxRecDepth 20000 in
theorem ggJ2_checkIndex_2214a_J2_length_9d52b : GoodIn wsJ2_checkIndex_2214a wsJ2_length_9d52b := goodIn_r _ [4] (by decide +kernel) (by decide +kernel)
set_option maxRecDepth 20000 in
theorem gJ2_checkIndex_2214a_J2_length_9d52b : GoodIn wsJ2_checkIndex_2214a (va_wsS RJ2 48 yJ2_length_9d52b wsJ2_length_9d52b) := goodIn_app (goodIn_of _ (by decide +kernel)) ggJ2_checkIndex_2214a_J2_length_9d52b
set_option maxRecDepth 20000 in
theorem ggJ2_checkIndex_2214a_J0_checkIndex_df160 : GoodIn wsJ2_checkIndex_2214a wsJ0_checkIndex_df160 := goodIn_r _ [8, 9, 10, 11, 12, 13] (by decide +kernel) (by decide +kernel)
set_option maxRecDepth 20000 in
theorem gJ2_checkIndex_2214a_J0_checkIndex_df160 : GoodIn wsJ2_checkIndex_2214a (va_wsS RJ2 414 yJ0_checkIndex_df160 wsJ0_checkIndex_df160) := goodIn_app (goodIn_of _ (by decide +kernel)) ggJ2_checkIndex_2214a_J0_checkIndex_df160
theorem dJ2_checkIndex_2214a_0 : decode cJ2_checkIndex_2214a 0 = .ok (.iload_n 0, 1) := by decide +kernel
theorem dJ2_checkIndex_2214a_1 : decode cJ2_checkIndex_2214a 1 = .ok (.aload_n 1, 1) := by decide +kernel
theorem dJ2_checkIndex_2214a_2 : decode cJ2_checkIndex_2214a 2 = .ok (.invokestatic 48, 3) := by decide +kernel
theorem dJ2_checkIndex_2214a_5 : decode cJ2_checkIndex_2214a 5 = .ok (.invokestatic 414, 3) := by decide +kernel
theorem dJ2_checkIndex_2214a_8 : decode cJ2_checkIndex_2214a 8 = .ok (.return_, 1) := by decide +kernel
theorem dJ3_checkIndex_8e157_0 : decode cJ3_checkIndex_8e157 0 = .ok (.iload_n 0, 1) := by decide +kernel
theorem dJ3_checkIndex_8e157_1 : decode cJ3_checkIndex_8e157 1 = .ok (.ifCond .lt 8, 3) := by decide +kernel
theorem dJ3_checkIndex_8e157_4 : decode cJ3_checkIndex_8e157 4 = .ok (.iload_n 0, 1) := by decide +kernel
theorem dJ3_checkIndex_8e157_5 : decode cJ3_checkIndex_8e157 5 = .ok (.iload_n 1, 1) := by decide +kernel
theorem dJ3_checkIndex_8e157_6 : decode cJ3_checkIndex_8e157 6 = .ok (.if_icmp .lt 10, 3) := by decide +kernel
theorem dJ3_checkIndex_8e157_9 : decode cJ3_checkIndex_8e157 9 = .ok (.aload_n 2, 1) := by decide +kernel
theorem dJ3_checkIndex_8e157_10 : decode cJ3_checkIndex_8e157 10 = .ok (.iload_n 0, 1) := by decide +kernel
theorem dJ3_checkIndex_8e157_11 : decode cJ3_checkIndex_8e157 11 = .ok (.iload_n 1, 1) := by decide +kernel
theorem dJ3_checkIndex_8e157_12 : decode cJ3_checkIndex_8e157 12 = .ok (.invokestatic 95, 3) := by decide +kernel
theorem dJ3_checkIndex_8e157_15 : decode cJ3_checkIndex_8e157 15 = .ok (.athrow, 1) := by decide +kernel
theorem dJ3_checkIndex_8e157_16 : decode cJ3_checkIndex_8e157 16 = .ok (.iload_n 0, 1) := by decide +kernel
theorem dJ3_checkIndex_8e157_17 : decode cJ3_checkIndex_8e157 17 = .ok (.ireturn, 1) := by decide +kernel

/-! Each instruction of each method, decoded. Written by wip/tools/emit_names.py. -/
theorem d_MD_init_0 : decode c_MD_init 0 = .ok (.aload_n 0, 1) := by decide +kernel
theorem d_MD_init_1 : decode c_MD_init 1 = .ok (.invokespecial 1, 3) := by decide +kernel
theorem d_MD_init_4 : decode c_MD_init 4 = .ok (.aload_n 0, 1) := by decide +kernel
theorem d_MD_init_5 : decode c_MD_init 5 = .ok (.bipush 60, 2) := by decide +kernel
theorem d_MD_init_7 : decode c_MD_init 7 = .ok (.newarray .int, 2) := by decide +kernel
theorem d_MD_init_9 : decode c_MD_init 9 = .ok (.putfield 7, 3) := by decide +kernel
theorem d_MD_init_12 : decode c_MD_init 12 = .ok (.aload_n 0, 1) := by decide +kernel
theorem d_MD_init_13 : decode c_MD_init 13 = .ok (.sipush 400, 3) := by decide +kernel
theorem d_MD_init_16 : decode c_MD_init 16 = .ok (.newarray .int, 2) := by decide +kernel
theorem d_MD_init_18 : decode c_MD_init 18 = .ok (.putfield 13, 3) := by decide +kernel
theorem d_MD_init_21 : decode c_MD_init 21 = .ok (.aload_n 0, 1) := by decide +kernel
theorem d_MD_init_22 : decode c_MD_init 22 = .ok (.bipush 40, 2) := by decide +kernel
theorem d_MD_init_24 : decode c_MD_init 24 = .ok (.newarray .int, 2) := by decide +kernel
theorem d_MD_init_26 : decode c_MD_init 26 = .ok (.putfield 16, 3) := by decide +kernel
theorem d_MD_init_29 : decode c_MD_init 29 = .ok (.aload_n 0, 1) := by decide +kernel
theorem d_MD_init_30 : decode c_MD_init 30 = .ok (.bipush 24, 2) := by decide +kernel
theorem d_MD_init_32 : decode c_MD_init 32 = .ok (.newarray .int, 2) := by decide +kernel
theorem d_MD_init_34 : decode c_MD_init 34 = .ok (.putfield 19, 3) := by decide +kernel
theorem d_MD_init_37 : decode c_MD_init 37 = .ok (.aload_n 0, 1) := by decide +kernel
theorem d_MD_init_38 : decode c_MD_init 38 = .ok (.bipush 24, 2) := by decide +kernel
theorem d_MD_init_40 : decode c_MD_init 40 = .ok (.newarray .int, 2) := by decide +kernel
theorem d_MD_init_42 : decode c_MD_init 42 = .ok (.putfield 22, 3) := by decide +kernel
theorem d_MD_init_45 : decode c_MD_init 45 = .ok (.aload_n 0, 1) := by decide +kernel
theorem d_MD_init_46 : decode c_MD_init 46 = .ok (.bipush 24, 2) := by decide +kernel
theorem d_MD_init_48 : decode c_MD_init 48 = .ok (.newarray .int, 2) := by decide +kernel
theorem d_MD_init_50 : decode c_MD_init 50 = .ok (.putfield 25, 3) := by decide +kernel
theorem d_MD_init_53 : decode c_MD_init 53 = .ok (.aload_n 0, 1) := by decide +kernel
theorem d_MD_init_54 : decode c_MD_init 54 = .ok (.bipush 24, 2) := by decide +kernel
theorem d_MD_init_56 : decode c_MD_init 56 = .ok (.newarray .int, 2) := by decide +kernel
theorem d_MD_init_58 : decode c_MD_init 58 = .ok (.putfield 28, 3) := by decide +kernel
theorem d_MD_init_61 : decode c_MD_init 61 = .ok (.aload_n 0, 1) := by decide +kernel
theorem d_MD_init_62 : decode c_MD_init 62 = .ok (.bipush 24, 2) := by decide +kernel
theorem d_MD_init_64 : decode c_MD_init 64 = .ok (.newarray .boolean, 2) := by decide +kernel
theorem d_MD_init_66 : decode c_MD_init 66 = .ok (.putfield 31, 3) := by decide +kernel
theorem d_MD_init_69 : decode c_MD_init 69 = .ok (.aload_n 0, 1) := by decide +kernel
theorem d_MD_init_70 : decode c_MD_init 70 = .ok (.bipush 20, 2) := by decide +kernel
theorem d_MD_init_72 : decode c_MD_init 72 = .ok (.newarray .int, 2) := by decide +kernel
theorem d_MD_init_74 : decode c_MD_init 74 = .ok (.putfield 35, 3) := by decide +kernel
theorem d_MD_init_77 : decode c_MD_init 77 = .ok (.aload_n 0, 1) := by decide +kernel
theorem d_MD_init_78 : decode c_MD_init 78 = .ok (.bipush 20, 2) := by decide +kernel
theorem d_MD_init_80 : decode c_MD_init 80 = .ok (.newarray .int, 2) := by decide +kernel
theorem d_MD_init_82 : decode c_MD_init 82 = .ok (.putfield 38, 3) := by decide +kernel
theorem d_MD_init_85 : decode c_MD_init 85 = .ok (.aload_n 0, 1) := by decide +kernel
theorem d_MD_init_86 : decode c_MD_init 86 = .ok (.bipush 20, 2) := by decide +kernel
theorem d_MD_init_88 : decode c_MD_init 88 = .ok (.newarray .int, 2) := by decide +kernel
theorem d_MD_init_90 : decode c_MD_init 90 = .ok (.putfield 41, 3) := by decide +kernel
theorem d_MD_init_93 : decode c_MD_init 93 = .ok (.aload_n 0, 1) := by decide +kernel
theorem d_MD_init_94 : decode c_MD_init 94 = .ok (.bipush 20, 2) := by decide +kernel
theorem d_MD_init_96 : decode c_MD_init 96 = .ok (.newarray .int, 2) := by decide +kernel
theorem d_MD_init_98 : decode c_MD_init 98 = .ok (.putfield 44, 3) := by decide +kernel
theorem d_MD_init_101 : decode c_MD_init 101 = .ok (.aload_n 0, 1) := by decide +kernel
theorem d_MD_init_102 : decode c_MD_init 102 = .ok (.iconst 4, 1) := by decide +kernel
theorem d_MD_init_103 : decode c_MD_init 103 = .ok (.newarray .int, 2) := by decide +kernel
theorem d_MD_init_105 : decode c_MD_init 105 = .ok (.putfield 47, 3) := by decide +kernel
theorem d_MD_init_108 : decode c_MD_init 108 = .ok (.aload_n 0, 1) := by decide +kernel
theorem d_MD_init_109 : decode c_MD_init 109 = .ok (.sipush 552, 3) := by decide +kernel
theorem d_MD_init_112 : decode c_MD_init 112 = .ok (.newarray .int, 2) := by decide +kernel
theorem d_MD_init_114 : decode c_MD_init 114 = .ok (.putfield 50, 3) := by decide +kernel
theorem d_MD_init_117 : decode c_MD_init 117 = .ok (.aload_n 0, 1) := by decide +kernel
theorem d_MD_init_118 : decode c_MD_init 118 = .ok (.bipush 24, 2) := by decide +kernel
theorem d_MD_init_120 : decode c_MD_init 120 = .ok (.newarray .int, 2) := by decide +kernel
theorem d_MD_init_122 : decode c_MD_init 122 = .ok (.putfield 53, 3) := by decide +kernel
theorem d_MD_init_125 : decode c_MD_init 125 = .ok (.aload_n 0, 1) := by decide +kernel
theorem d_MD_init_126 : decode c_MD_init 126 = .ok (.sipush 400, 3) := by decide +kernel
theorem d_MD_init_129 : decode c_MD_init 129 = .ok (.newarray .int, 2) := by decide +kernel
theorem d_MD_init_131 : decode c_MD_init 131 = .ok (.putfield 56, 3) := by decide +kernel
theorem d_MD_init_134 : decode c_MD_init 134 = .ok (.aload_n 0, 1) := by decide +kernel
theorem d_MD_init_135 : decode c_MD_init 135 = .ok (.bipush 88, 2) := by decide +kernel
theorem d_MD_init_137 : decode c_MD_init 137 = .ok (.newarray .int, 2) := by decide +kernel
theorem d_MD_init_139 : decode c_MD_init 139 = .ok (.dup, 1) := by decide +kernel
theorem d_MD_init_140 : decode c_MD_init 140 = .ok (.iconst 0, 1) := by decide +kernel
theorem d_MD_init_141 : decode c_MD_init 141 = .ok (.bipush 115, 2) := by decide +kernel
theorem d_MD_init_143 : decode c_MD_init 143 = .ok (.iastore, 1) := by decide +kernel
theorem d_MD_init_144 : decode c_MD_init 144 = .ok (.dup, 1) := by decide +kernel
theorem d_MD_init_145 : decode c_MD_init 145 = .ok (.iconst 1, 1) := by decide +kernel
theorem d_MD_init_146 : decode c_MD_init 146 = .ok (.bipush 105, 2) := by decide +kernel
theorem d_MD_init_148 : decode c_MD_init 148 = .ok (.iastore, 1) := by decide +kernel
theorem d_MD_init_149 : decode c_MD_init 149 = .ok (.dup, 1) := by decide +kernel
theorem d_MD_init_150 : decode c_MD_init 150 = .ok (.iconst 2, 1) := by decide +kernel
theorem d_MD_init_151 : decode c_MD_init 151 = .ok (.bipush 122, 2) := by decide +kernel
theorem d_MD_init_153 : decode c_MD_init 153 = .ok (.iastore, 1) := by decide +kernel
theorem d_MD_init_154 : decode c_MD_init 154 = .ok (.dup, 1) := by decide +kernel
theorem d_MD_init_155 : decode c_MD_init 155 = .ok (.iconst 3, 1) := by decide +kernel
theorem d_MD_init_156 : decode c_MD_init 156 = .ok (.bipush 101, 2) := by decide +kernel
theorem d_MD_init_158 : decode c_MD_init 158 = .ok (.iastore, 1) := by decide +kernel
theorem d_MD_init_159 : decode c_MD_init 159 = .ok (.dup, 1) := by decide +kernel
theorem d_MD_init_160 : decode c_MD_init 160 = .ok (.iconst 4, 1) := by decide +kernel
theorem d_MD_init_161 : decode c_MD_init 161 = .ok (.iconst 0, 1) := by decide +kernel
theorem d_MD_init_162 : decode c_MD_init 162 = .ok (.iastore, 1) := by decide +kernel
theorem d_MD_init_163 : decode c_MD_init 163 = .ok (.dup, 1) := by decide +kernel
theorem d_MD_init_164 : decode c_MD_init 164 = .ok (.iconst 5, 1) := by decide +kernel
theorem d_MD_init_165 : decode c_MD_init 165 = .ok (.iconst 0, 1) := by decide +kernel
theorem d_MD_init_166 : decode c_MD_init 166 = .ok (.iastore, 1) := by decide +kernel
theorem d_MD_init_167 : decode c_MD_init 167 = .ok (.dup, 1) := by decide +kernel
theorem d_MD_init_168 : decode c_MD_init 168 = .ok (.bipush 6, 2) := by decide +kernel
theorem d_MD_init_170 : decode c_MD_init 170 = .ok (.iconst 0, 1) := by decide +kernel
theorem d_MD_init_171 : decode c_MD_init 171 = .ok (.iastore, 1) := by decide +kernel
theorem d_MD_init_172 : decode c_MD_init 172 = .ok (.dup, 1) := by decide +kernel
theorem d_MD_init_173 : decode c_MD_init 173 = .ok (.bipush 7, 2) := by decide +kernel
theorem d_MD_init_175 : decode c_MD_init 175 = .ok (.iconst 0, 1) := by decide +kernel
theorem d_MD_init_176 : decode c_MD_init 176 = .ok (.iastore, 1) := by decide +kernel
theorem d_MD_init_177 : decode c_MD_init 177 = .ok (.dup, 1) := by decide +kernel
theorem d_MD_init_178 : decode c_MD_init 178 = .ok (.bipush 8, 2) := by decide +kernel
theorem d_MD_init_180 : decode c_MD_init 180 = .ok (.bipush 119, 2) := by decide +kernel
theorem d_MD_init_182 : decode c_MD_init 182 = .ok (.iastore, 1) := by decide +kernel
theorem d_MD_init_183 : decode c_MD_init 183 = .ok (.dup, 1) := by decide +kernel
theorem d_MD_init_184 : decode c_MD_init 184 = .ok (.bipush 9, 2) := by decide +kernel
theorem d_MD_init_186 : decode c_MD_init 186 = .ok (.bipush 101, 2) := by decide +kernel
theorem d_MD_init_188 : decode c_MD_init 188 = .ok (.iastore, 1) := by decide +kernel
theorem d_MD_init_189 : decode c_MD_init 189 = .ok (.dup, 1) := by decide +kernel
theorem d_MD_init_190 : decode c_MD_init 190 = .ok (.bipush 10, 2) := by decide +kernel
theorem d_MD_init_192 : decode c_MD_init 192 = .ok (.bipush 105, 2) := by decide +kernel
theorem d_MD_init_194 : decode c_MD_init 194 = .ok (.iastore, 1) := by decide +kernel
theorem d_MD_init_195 : decode c_MD_init 195 = .ok (.dup, 1) := by decide +kernel
theorem d_MD_init_196 : decode c_MD_init 196 = .ok (.bipush 11, 2) := by decide +kernel
theorem d_MD_init_198 : decode c_MD_init 198 = .ok (.bipush 103, 2) := by decide +kernel
theorem d_MD_init_200 : decode c_MD_init 200 = .ok (.iastore, 1) := by decide +kernel
theorem d_MD_init_201 : decode c_MD_init 201 = .ok (.dup, 1) := by decide +kernel
theorem d_MD_init_202 : decode c_MD_init 202 = .ok (.bipush 12, 2) := by decide +kernel
theorem d_MD_init_204 : decode c_MD_init 204 = .ok (.bipush 104, 2) := by decide +kernel
theorem d_MD_init_206 : decode c_MD_init 206 = .ok (.iastore, 1) := by decide +kernel
theorem d_MD_init_207 : decode c_MD_init 207 = .ok (.dup, 1) := by decide +kernel
theorem d_MD_init_208 : decode c_MD_init 208 = .ok (.bipush 13, 2) := by decide +kernel
theorem d_MD_init_210 : decode c_MD_init 210 = .ok (.bipush 116, 2) := by decide +kernel
theorem d_MD_init_212 : decode c_MD_init 212 = .ok (.iastore, 1) := by decide +kernel
theorem d_MD_init_213 : decode c_MD_init 213 = .ok (.dup, 1) := by decide +kernel
theorem d_MD_init_214 : decode c_MD_init 214 = .ok (.bipush 14, 2) := by decide +kernel
theorem d_MD_init_216 : decode c_MD_init 216 = .ok (.iconst 0, 1) := by decide +kernel
theorem d_MD_init_217 : decode c_MD_init 217 = .ok (.iastore, 1) := by decide +kernel
theorem d_MD_init_218 : decode c_MD_init 218 = .ok (.dup, 1) := by decide +kernel
theorem d_MD_init_219 : decode c_MD_init 219 = .ok (.bipush 15, 2) := by decide +kernel
theorem d_MD_init_221 : decode c_MD_init 221 = .ok (.iconst 0, 1) := by decide +kernel
theorem d_MD_init_222 : decode c_MD_init 222 = .ok (.iastore, 1) := by decide +kernel
theorem d_MD_init_223 : decode c_MD_init 223 = .ok (.dup, 1) := by decide +kernel
theorem d_MD_init_224 : decode c_MD_init 224 = .ok (.bipush 16, 2) := by decide +kernel
theorem d_MD_init_226 : decode c_MD_init 226 = .ok (.bipush 103, 2) := by decide +kernel
theorem d_MD_init_228 : decode c_MD_init 228 = .ok (.iastore, 1) := by decide +kernel
theorem d_MD_init_229 : decode c_MD_init 229 = .ok (.dup, 1) := by decide +kernel
theorem d_MD_init_230 : decode c_MD_init 230 = .ok (.bipush 17, 2) := by decide +kernel
theorem d_MD_init_232 : decode c_MD_init 232 = .ok (.bipush 111, 2) := by decide +kernel
theorem d_MD_init_234 : decode c_MD_init 234 = .ok (.iastore, 1) := by decide +kernel
theorem d_MD_init_235 : decode c_MD_init 235 = .ok (.dup, 1) := by decide +kernel
theorem d_MD_init_236 : decode c_MD_init 236 = .ok (.bipush 18, 2) := by decide +kernel
theorem d_MD_init_238 : decode c_MD_init 238 = .ok (.bipush 111, 2) := by decide +kernel
theorem d_MD_init_240 : decode c_MD_init 240 = .ok (.iastore, 1) := by decide +kernel
theorem d_MD_init_241 : decode c_MD_init 241 = .ok (.dup, 1) := by decide +kernel
theorem d_MD_init_242 : decode c_MD_init 242 = .ok (.bipush 19, 2) := by decide +kernel
theorem d_MD_init_244 : decode c_MD_init 244 = .ok (.bipush 100, 2) := by decide +kernel
theorem d_MD_init_246 : decode c_MD_init 246 = .ok (.iastore, 1) := by decide +kernel
theorem d_MD_init_247 : decode c_MD_init 247 = .ok (.dup, 1) := by decide +kernel
theorem d_MD_init_248 : decode c_MD_init 248 = .ok (.bipush 20, 2) := by decide +kernel
theorem d_MD_init_250 : decode c_MD_init 250 = .ok (.bipush 115, 2) := by decide +kernel
theorem d_MD_init_252 : decode c_MD_init 252 = .ok (.iastore, 1) := by decide +kernel
theorem d_MD_init_253 : decode c_MD_init 253 = .ok (.dup, 1) := by decide +kernel
theorem d_MD_init_254 : decode c_MD_init 254 = .ok (.bipush 21, 2) := by decide +kernel
theorem d_MD_init_256 : decode c_MD_init 256 = .ok (.iconst 0, 1) := by decide +kernel
theorem d_MD_init_257 : decode c_MD_init 257 = .ok (.iastore, 1) := by decide +kernel
theorem d_MD_init_258 : decode c_MD_init 258 = .ok (.dup, 1) := by decide +kernel
theorem d_MD_init_259 : decode c_MD_init 259 = .ok (.bipush 22, 2) := by decide +kernel
theorem d_MD_init_261 : decode c_MD_init 261 = .ok (.iconst 0, 1) := by decide +kernel
theorem d_MD_init_262 : decode c_MD_init 262 = .ok (.iastore, 1) := by decide +kernel
theorem d_MD_init_263 : decode c_MD_init 263 = .ok (.dup, 1) := by decide +kernel
theorem d_MD_init_264 : decode c_MD_init 264 = .ok (.bipush 23, 2) := by decide +kernel
theorem d_MD_init_266 : decode c_MD_init 266 = .ok (.iconst 0, 1) := by decide +kernel
theorem d_MD_init_267 : decode c_MD_init 267 = .ok (.iastore, 1) := by decide +kernel
theorem d_MD_init_268 : decode c_MD_init 268 = .ok (.dup, 1) := by decide +kernel
theorem d_MD_init_269 : decode c_MD_init 269 = .ok (.bipush 24, 2) := by decide +kernel
theorem d_MD_init_271 : decode c_MD_init 271 = .ok (.bipush 108, 2) := by decide +kernel
theorem d_MD_init_273 : decode c_MD_init 273 = .ok (.iastore, 1) := by decide +kernel
theorem d_MD_init_274 : decode c_MD_init 274 = .ok (.dup, 1) := by decide +kernel
theorem d_MD_init_275 : decode c_MD_init 275 = .ok (.bipush 25, 2) := by decide +kernel
theorem d_MD_init_277 : decode c_MD_init 277 = .ok (.bipush 111, 2) := by decide +kernel
theorem d_MD_init_279 : decode c_MD_init 279 = .ok (.iastore, 1) := by decide +kernel
theorem d_MD_init_280 : decode c_MD_init 280 = .ok (.dup, 1) := by decide +kernel
theorem d_MD_init_281 : decode c_MD_init 281 = .ok (.bipush 26, 2) := by decide +kernel
theorem d_MD_init_283 : decode c_MD_init 283 = .ok (.bipush 116, 2) := by decide +kernel
theorem d_MD_init_285 : decode c_MD_init 285 = .ok (.iastore, 1) := by decide +kernel
theorem d_MD_init_286 : decode c_MD_init 286 = .ok (.dup, 1) := by decide +kernel
theorem d_MD_init_287 : decode c_MD_init 287 = .ok (.bipush 27, 2) := by decide +kernel
theorem d_MD_init_289 : decode c_MD_init 289 = .ok (.bipush 115, 2) := by decide +kernel
theorem d_MD_init_291 : decode c_MD_init 291 = .ok (.iastore, 1) := by decide +kernel
theorem d_MD_init_292 : decode c_MD_init 292 = .ok (.dup, 1) := by decide +kernel
theorem d_MD_init_293 : decode c_MD_init 293 = .ok (.bipush 28, 2) := by decide +kernel
theorem d_MD_init_295 : decode c_MD_init 295 = .ok (.iconst 0, 1) := by decide +kernel
theorem d_MD_init_296 : decode c_MD_init 296 = .ok (.iastore, 1) := by decide +kernel
theorem d_MD_init_297 : decode c_MD_init 297 = .ok (.dup, 1) := by decide +kernel
theorem d_MD_init_298 : decode c_MD_init 298 = .ok (.bipush 29, 2) := by decide +kernel
theorem d_MD_init_300 : decode c_MD_init 300 = .ok (.iconst 0, 1) := by decide +kernel
theorem d_MD_init_301 : decode c_MD_init 301 = .ok (.iastore, 1) := by decide +kernel
theorem d_MD_init_302 : decode c_MD_init 302 = .ok (.dup, 1) := by decide +kernel
theorem d_MD_init_303 : decode c_MD_init 303 = .ok (.bipush 30, 2) := by decide +kernel
theorem d_MD_init_305 : decode c_MD_init 305 = .ok (.iconst 0, 1) := by decide +kernel
theorem d_MD_init_306 : decode c_MD_init 306 = .ok (.iastore, 1) := by decide +kernel
theorem d_MD_init_307 : decode c_MD_init 307 = .ok (.dup, 1) := by decide +kernel
theorem d_MD_init_308 : decode c_MD_init 308 = .ok (.bipush 31, 2) := by decide +kernel
theorem d_MD_init_310 : decode c_MD_init 310 = .ok (.iconst 0, 1) := by decide +kernel
theorem d_MD_init_311 : decode c_MD_init 311 = .ok (.iastore, 1) := by decide +kernel
theorem d_MD_init_312 : decode c_MD_init 312 = .ok (.dup, 1) := by decide +kernel
theorem d_MD_init_313 : decode c_MD_init 313 = .ok (.bipush 32, 2) := by decide +kernel
theorem d_MD_init_315 : decode c_MD_init 315 = .ok (.bipush 111, 2) := by decide +kernel
theorem d_MD_init_317 : decode c_MD_init 317 = .ok (.iastore, 1) := by decide +kernel
theorem d_MD_init_318 : decode c_MD_init 318 = .ok (.dup, 1) := by decide +kernel
theorem d_MD_init_319 : decode c_MD_init 319 = .ok (.bipush 33, 2) := by decide +kernel
theorem d_MD_init_321 : decode c_MD_init 321 = .ok (.bipush 119, 2) := by decide +kernel
theorem d_MD_init_323 : decode c_MD_init 323 = .ok (.iastore, 1) := by decide +kernel
theorem d_MD_init_324 : decode c_MD_init 324 = .ok (.dup, 1) := by decide +kernel
theorem d_MD_init_325 : decode c_MD_init 325 = .ok (.bipush 34, 2) := by decide +kernel
theorem d_MD_init_327 : decode c_MD_init 327 = .ok (.bipush 110, 2) := by decide +kernel
theorem d_MD_init_329 : decode c_MD_init 329 = .ok (.iastore, 1) := by decide +kernel
theorem d_MD_init_330 : decode c_MD_init 330 = .ok (.dup, 1) := by decide +kernel
theorem d_MD_init_331 : decode c_MD_init 331 = .ok (.bipush 35, 2) := by decide +kernel
theorem d_MD_init_333 : decode c_MD_init 333 = .ok (.bipush 101, 2) := by decide +kernel
theorem d_MD_init_335 : decode c_MD_init 335 = .ok (.iastore, 1) := by decide +kernel
theorem d_MD_init_336 : decode c_MD_init 336 = .ok (.dup, 1) := by decide +kernel
theorem d_MD_init_337 : decode c_MD_init 337 = .ok (.bipush 36, 2) := by decide +kernel
theorem d_MD_init_339 : decode c_MD_init 339 = .ok (.bipush 114, 2) := by decide +kernel
theorem d_MD_init_341 : decode c_MD_init 341 = .ok (.iastore, 1) := by decide +kernel
theorem d_MD_init_342 : decode c_MD_init 342 = .ok (.dup, 1) := by decide +kernel
theorem d_MD_init_343 : decode c_MD_init 343 = .ok (.bipush 37, 2) := by decide +kernel
theorem d_MD_init_345 : decode c_MD_init 345 = .ok (.bipush 115, 2) := by decide +kernel
theorem d_MD_init_347 : decode c_MD_init 347 = .ok (.iastore, 1) := by decide +kernel
theorem d_MD_init_348 : decode c_MD_init 348 = .ok (.dup, 1) := by decide +kernel
theorem d_MD_init_349 : decode c_MD_init 349 = .ok (.bipush 38, 2) := by decide +kernel
theorem d_MD_init_351 : decode c_MD_init 351 = .ok (.iconst 0, 1) := by decide +kernel
theorem d_MD_init_352 : decode c_MD_init 352 = .ok (.iastore, 1) := by decide +kernel
theorem d_MD_init_353 : decode c_MD_init 353 = .ok (.dup, 1) := by decide +kernel
theorem d_MD_init_354 : decode c_MD_init 354 = .ok (.bipush 39, 2) := by decide +kernel
theorem d_MD_init_356 : decode c_MD_init 356 = .ok (.iconst 0, 1) := by decide +kernel
theorem d_MD_init_357 : decode c_MD_init 357 = .ok (.iastore, 1) := by decide +kernel
theorem d_MD_init_358 : decode c_MD_init 358 = .ok (.dup, 1) := by decide +kernel
theorem d_MD_init_359 : decode c_MD_init 359 = .ok (.bipush 40, 2) := by decide +kernel
theorem d_MD_init_361 : decode c_MD_init 361 = .ok (.bipush 104, 2) := by decide +kernel
theorem d_MD_init_363 : decode c_MD_init 363 = .ok (.iastore, 1) := by decide +kernel
theorem d_MD_init_364 : decode c_MD_init 364 = .ok (.dup, 1) := by decide +kernel
theorem d_MD_init_365 : decode c_MD_init 365 = .ok (.bipush 41, 2) := by decide +kernel
theorem d_MD_init_367 : decode c_MD_init 367 = .ok (.bipush 97, 2) := by decide +kernel
theorem d_MD_init_369 : decode c_MD_init 369 = .ok (.iastore, 1) := by decide +kernel
theorem d_MD_init_370 : decode c_MD_init 370 = .ok (.dup, 1) := by decide +kernel
theorem d_MD_init_371 : decode c_MD_init 371 = .ok (.bipush 42, 2) := by decide +kernel
theorem d_MD_init_373 : decode c_MD_init 373 = .ok (.bipush 122, 2) := by decide +kernel
theorem d_MD_init_375 : decode c_MD_init 375 = .ok (.iastore, 1) := by decide +kernel
theorem d_MD_init_376 : decode c_MD_init 376 = .ok (.dup, 1) := by decide +kernel
theorem d_MD_init_377 : decode c_MD_init 377 = .ok (.bipush 43, 2) := by decide +kernel
theorem d_MD_init_379 : decode c_MD_init 379 = .ok (.bipush 97, 2) := by decide +kernel
theorem d_MD_init_381 : decode c_MD_init 381 = .ok (.iastore, 1) := by decide +kernel
theorem d_MD_init_382 : decode c_MD_init 382 = .ok (.dup, 1) := by decide +kernel
theorem d_MD_init_383 : decode c_MD_init 383 = .ok (.bipush 44, 2) := by decide +kernel
theorem d_MD_init_385 : decode c_MD_init 385 = .ok (.bipush 114, 2) := by decide +kernel
theorem d_MD_init_387 : decode c_MD_init 387 = .ok (.iastore, 1) := by decide +kernel
theorem d_MD_init_388 : decode c_MD_init 388 = .ok (.dup, 1) := by decide +kernel
theorem d_MD_init_389 : decode c_MD_init 389 = .ok (.bipush 45, 2) := by decide +kernel
theorem d_MD_init_391 : decode c_MD_init 391 = .ok (.bipush 100, 2) := by decide +kernel
theorem d_MD_init_393 : decode c_MD_init 393 = .ok (.iastore, 1) := by decide +kernel
theorem d_MD_init_394 : decode c_MD_init 394 = .ok (.dup, 1) := by decide +kernel
theorem d_MD_init_395 : decode c_MD_init 395 = .ok (.bipush 46, 2) := by decide +kernel
theorem d_MD_init_397 : decode c_MD_init 397 = .ok (.iconst 0, 1) := by decide +kernel
theorem d_MD_init_398 : decode c_MD_init 398 = .ok (.iastore, 1) := by decide +kernel
theorem d_MD_init_399 : decode c_MD_init 399 = .ok (.dup, 1) := by decide +kernel
theorem d_MD_init_400 : decode c_MD_init 400 = .ok (.bipush 47, 2) := by decide +kernel
theorem d_MD_init_402 : decode c_MD_init 402 = .ok (.iconst 0, 1) := by decide +kernel
theorem d_MD_init_403 : decode c_MD_init 403 = .ok (.iastore, 1) := by decide +kernel
theorem d_MD_init_404 : decode c_MD_init 404 = .ok (.dup, 1) := by decide +kernel
theorem d_MD_init_405 : decode c_MD_init 405 = .ok (.bipush 48, 2) := by decide +kernel
theorem d_MD_init_407 : decode c_MD_init 407 = .ok (.bipush 122, 2) := by decide +kernel
theorem d_MD_init_409 : decode c_MD_init 409 = .ok (.iastore, 1) := by decide +kernel
theorem d_MD_init_410 : decode c_MD_init 410 = .ok (.dup, 1) := by decide +kernel
theorem d_MD_init_411 : decode c_MD_init 411 = .ok (.bipush 49, 2) := by decide +kernel
theorem d_MD_init_413 : decode c_MD_init 413 = .ok (.bipush 111, 2) := by decide +kernel
theorem d_MD_init_415 : decode c_MD_init 415 = .ok (.iastore, 1) := by decide +kernel
theorem d_MD_init_416 : decode c_MD_init 416 = .ok (.dup, 1) := by decide +kernel
theorem d_MD_init_417 : decode c_MD_init 417 = .ok (.bipush 50, 2) := by decide +kernel
theorem d_MD_init_419 : decode c_MD_init 419 = .ok (.bipush 110, 2) := by decide +kernel
theorem d_MD_init_421 : decode c_MD_init 421 = .ok (.iastore, 1) := by decide +kernel
theorem d_MD_init_422 : decode c_MD_init 422 = .ok (.dup, 1) := by decide +kernel
theorem d_MD_init_423 : decode c_MD_init 423 = .ok (.bipush 51, 2) := by decide +kernel
theorem d_MD_init_425 : decode c_MD_init 425 = .ok (.bipush 101, 2) := by decide +kernel
theorem d_MD_init_427 : decode c_MD_init 427 = .ok (.iastore, 1) := by decide +kernel
theorem d_MD_init_428 : decode c_MD_init 428 = .ok (.dup, 1) := by decide +kernel
theorem d_MD_init_429 : decode c_MD_init 429 = .ok (.bipush 52, 2) := by decide +kernel
theorem d_MD_init_431 : decode c_MD_init 431 = .ok (.iconst 0, 1) := by decide +kernel
theorem d_MD_init_432 : decode c_MD_init 432 = .ok (.iastore, 1) := by decide +kernel
theorem d_MD_init_433 : decode c_MD_init 433 = .ok (.dup, 1) := by decide +kernel
theorem d_MD_init_434 : decode c_MD_init 434 = .ok (.bipush 53, 2) := by decide +kernel
theorem d_MD_init_436 : decode c_MD_init 436 = .ok (.iconst 0, 1) := by decide +kernel
theorem d_MD_init_437 : decode c_MD_init 437 = .ok (.iastore, 1) := by decide +kernel
theorem d_MD_init_438 : decode c_MD_init 438 = .ok (.dup, 1) := by decide +kernel
theorem d_MD_init_439 : decode c_MD_init 439 = .ok (.bipush 54, 2) := by decide +kernel
theorem d_MD_init_441 : decode c_MD_init 441 = .ok (.iconst 0, 1) := by decide +kernel
theorem d_MD_init_442 : decode c_MD_init 442 = .ok (.iastore, 1) := by decide +kernel
theorem d_MD_init_443 : decode c_MD_init 443 = .ok (.dup, 1) := by decide +kernel
theorem d_MD_init_444 : decode c_MD_init 444 = .ok (.bipush 55, 2) := by decide +kernel
theorem d_MD_init_446 : decode c_MD_init 446 = .ok (.iconst 0, 1) := by decide +kernel
theorem d_MD_init_447 : decode c_MD_init 447 = .ok (.iastore, 1) := by decide +kernel
theorem d_MD_init_448 : decode c_MD_init 448 = .ok (.dup, 1) := by decide +kernel
theorem d_MD_init_449 : decode c_MD_init 449 = .ok (.bipush 56, 2) := by decide +kernel
theorem d_MD_init_451 : decode c_MD_init 451 = .ok (.bipush 117, 2) := by decide +kernel
theorem d_MD_init_453 : decode c_MD_init 453 = .ok (.iastore, 1) := by decide +kernel
theorem d_MD_init_454 : decode c_MD_init 454 = .ok (.dup, 1) := by decide +kernel
theorem d_MD_init_455 : decode c_MD_init 455 = .ok (.bipush 57, 2) := by decide +kernel
theorem d_MD_init_457 : decode c_MD_init 457 = .ok (.bipush 110, 2) := by decide +kernel
theorem d_MD_init_459 : decode c_MD_init 459 = .ok (.iastore, 1) := by decide +kernel
theorem d_MD_init_460 : decode c_MD_init 460 = .ok (.dup, 1) := by decide +kernel
theorem d_MD_init_461 : decode c_MD_init 461 = .ok (.bipush 58, 2) := by decide +kernel
theorem d_MD_init_463 : decode c_MD_init 463 = .ok (.bipush 105, 2) := by decide +kernel
theorem d_MD_init_465 : decode c_MD_init 465 = .ok (.iastore, 1) := by decide +kernel
theorem d_MD_init_466 : decode c_MD_init 466 = .ok (.dup, 1) := by decide +kernel
theorem d_MD_init_467 : decode c_MD_init 467 = .ok (.bipush 59, 2) := by decide +kernel
theorem d_MD_init_469 : decode c_MD_init 469 = .ok (.bipush 116, 2) := by decide +kernel
theorem d_MD_init_471 : decode c_MD_init 471 = .ok (.iastore, 1) := by decide +kernel
theorem d_MD_init_472 : decode c_MD_init 472 = .ok (.dup, 1) := by decide +kernel
theorem d_MD_init_473 : decode c_MD_init 473 = .ok (.bipush 60, 2) := by decide +kernel
theorem d_MD_init_475 : decode c_MD_init 475 = .ok (.bipush 115, 2) := by decide +kernel
theorem d_MD_init_477 : decode c_MD_init 477 = .ok (.iastore, 1) := by decide +kernel
theorem d_MD_init_478 : decode c_MD_init 478 = .ok (.dup, 1) := by decide +kernel
theorem d_MD_init_479 : decode c_MD_init 479 = .ok (.bipush 61, 2) := by decide +kernel
theorem d_MD_init_481 : decode c_MD_init 481 = .ok (.iconst 0, 1) := by decide +kernel
theorem d_MD_init_482 : decode c_MD_init 482 = .ok (.iastore, 1) := by decide +kernel
theorem d_MD_init_483 : decode c_MD_init 483 = .ok (.dup, 1) := by decide +kernel
theorem d_MD_init_484 : decode c_MD_init 484 = .ok (.bipush 62, 2) := by decide +kernel
theorem d_MD_init_486 : decode c_MD_init 486 = .ok (.iconst 0, 1) := by decide +kernel
theorem d_MD_init_487 : decode c_MD_init 487 = .ok (.iastore, 1) := by decide +kernel
theorem d_MD_init_488 : decode c_MD_init 488 = .ok (.dup, 1) := by decide +kernel
theorem d_MD_init_489 : decode c_MD_init 489 = .ok (.bipush 63, 2) := by decide +kernel
theorem d_MD_init_491 : decode c_MD_init 491 = .ok (.iconst 0, 1) := by decide +kernel
theorem d_MD_init_492 : decode c_MD_init 492 = .ok (.iastore, 1) := by decide +kernel
theorem d_MD_init_493 : decode c_MD_init 493 = .ok (.dup, 1) := by decide +kernel
theorem d_MD_init_494 : decode c_MD_init 494 = .ok (.bipush 64, 2) := by decide +kernel
theorem d_MD_init_496 : decode c_MD_init 496 = .ok (.bipush 100, 2) := by decide +kernel
theorem d_MD_init_498 : decode c_MD_init 498 = .ok (.iastore, 1) := by decide +kernel
theorem d_MD_init_499 : decode c_MD_init 499 = .ok (.dup, 1) := by decide +kernel
theorem d_MD_init_500 : decode c_MD_init 500 = .ok (.bipush 65, 2) := by decide +kernel
theorem d_MD_init_502 : decode c_MD_init 502 = .ok (.bipush 97, 2) := by decide +kernel
theorem d_MD_init_504 : decode c_MD_init 504 = .ok (.iastore, 1) := by decide +kernel
theorem d_MD_init_505 : decode c_MD_init 505 = .ok (.dup, 1) := by decide +kernel
theorem d_MD_init_506 : decode c_MD_init 506 = .ok (.bipush 66, 2) := by decide +kernel
theorem d_MD_init_508 : decode c_MD_init 508 = .ok (.bipush 116, 2) := by decide +kernel
theorem d_MD_init_510 : decode c_MD_init 510 = .ok (.iastore, 1) := by decide +kernel
theorem d_MD_init_511 : decode c_MD_init 511 = .ok (.dup, 1) := by decide +kernel
theorem d_MD_init_512 : decode c_MD_init 512 = .ok (.bipush 67, 2) := by decide +kernel
theorem d_MD_init_514 : decode c_MD_init 514 = .ok (.bipush 101, 2) := by decide +kernel
theorem d_MD_init_516 : decode c_MD_init 516 = .ok (.iastore, 1) := by decide +kernel
theorem d_MD_init_517 : decode c_MD_init 517 = .ok (.dup, 1) := by decide +kernel
theorem d_MD_init_518 : decode c_MD_init 518 = .ok (.bipush 68, 2) := by decide +kernel
theorem d_MD_init_520 : decode c_MD_init 520 = .ok (.bipush 115, 2) := by decide +kernel
theorem d_MD_init_522 : decode c_MD_init 522 = .ok (.iastore, 1) := by decide +kernel
theorem d_MD_init_523 : decode c_MD_init 523 = .ok (.dup, 1) := by decide +kernel
theorem d_MD_init_524 : decode c_MD_init 524 = .ok (.bipush 69, 2) := by decide +kernel
theorem d_MD_init_526 : decode c_MD_init 526 = .ok (.iconst 0, 1) := by decide +kernel
theorem d_MD_init_527 : decode c_MD_init 527 = .ok (.iastore, 1) := by decide +kernel
theorem d_MD_init_528 : decode c_MD_init 528 = .ok (.dup, 1) := by decide +kernel
theorem d_MD_init_529 : decode c_MD_init 529 = .ok (.bipush 70, 2) := by decide +kernel
theorem d_MD_init_531 : decode c_MD_init 531 = .ok (.iconst 0, 1) := by decide +kernel
theorem d_MD_init_532 : decode c_MD_init 532 = .ok (.iastore, 1) := by decide +kernel
theorem d_MD_init_533 : decode c_MD_init 533 = .ok (.dup, 1) := by decide +kernel
theorem d_MD_init_534 : decode c_MD_init 534 = .ok (.bipush 71, 2) := by decide +kernel
theorem d_MD_init_536 : decode c_MD_init 536 = .ok (.iconst 0, 1) := by decide +kernel
theorem d_MD_init_537 : decode c_MD_init 537 = .ok (.iastore, 1) := by decide +kernel
theorem d_MD_init_538 : decode c_MD_init 538 = .ok (.dup, 1) := by decide +kernel
theorem d_MD_init_539 : decode c_MD_init 539 = .ok (.bipush 72, 2) := by decide +kernel
theorem d_MD_init_541 : decode c_MD_init 541 = .ok (.bipush 100, 2) := by decide +kernel
theorem d_MD_init_543 : decode c_MD_init 543 = .ok (.iastore, 1) := by decide +kernel
theorem d_MD_init_544 : decode c_MD_init 544 = .ok (.dup, 1) := by decide +kernel
theorem d_MD_init_545 : decode c_MD_init 545 = .ok (.bipush 73, 2) := by decide +kernel
theorem d_MD_init_547 : decode c_MD_init 547 = .ok (.bipush 97, 2) := by decide +kernel
theorem d_MD_init_549 : decode c_MD_init 549 = .ok (.iastore, 1) := by decide +kernel
theorem d_MD_init_550 : decode c_MD_init 550 = .ok (.dup, 1) := by decide +kernel
theorem d_MD_init_551 : decode c_MD_init 551 = .ok (.bipush 74, 2) := by decide +kernel
theorem d_MD_init_553 : decode c_MD_init 553 = .ok (.bipush 121, 2) := by decide +kernel
theorem d_MD_init_555 : decode c_MD_init 555 = .ok (.iastore, 1) := by decide +kernel
theorem d_MD_init_556 : decode c_MD_init 556 = .ok (.dup, 1) := by decide +kernel
theorem d_MD_init_557 : decode c_MD_init 557 = .ok (.bipush 75, 2) := by decide +kernel
theorem d_MD_init_559 : decode c_MD_init 559 = .ok (.bipush 115, 2) := by decide +kernel
theorem d_MD_init_561 : decode c_MD_init 561 = .ok (.iastore, 1) := by decide +kernel
theorem d_MD_init_562 : decode c_MD_init 562 = .ok (.dup, 1) := by decide +kernel
theorem d_MD_init_563 : decode c_MD_init 563 = .ok (.bipush 76, 2) := by decide +kernel
theorem d_MD_init_565 : decode c_MD_init 565 = .ok (.iconst 0, 1) := by decide +kernel
theorem d_MD_init_566 : decode c_MD_init 566 = .ok (.iastore, 1) := by decide +kernel
theorem d_MD_init_567 : decode c_MD_init 567 = .ok (.dup, 1) := by decide +kernel
theorem d_MD_init_568 : decode c_MD_init 568 = .ok (.bipush 77, 2) := by decide +kernel
theorem d_MD_init_570 : decode c_MD_init 570 = .ok (.iconst 0, 1) := by decide +kernel
theorem d_MD_init_571 : decode c_MD_init 571 = .ok (.iastore, 1) := by decide +kernel
theorem d_MD_init_572 : decode c_MD_init 572 = .ok (.dup, 1) := by decide +kernel
theorem d_MD_init_573 : decode c_MD_init 573 = .ok (.bipush 78, 2) := by decide +kernel
theorem d_MD_init_575 : decode c_MD_init 575 = .ok (.iconst 0, 1) := by decide +kernel
theorem d_MD_init_576 : decode c_MD_init 576 = .ok (.iastore, 1) := by decide +kernel
theorem d_MD_init_577 : decode c_MD_init 577 = .ok (.dup, 1) := by decide +kernel
theorem d_MD_init_578 : decode c_MD_init 578 = .ok (.bipush 79, 2) := by decide +kernel
theorem d_MD_init_580 : decode c_MD_init 580 = .ok (.iconst 0, 1) := by decide +kernel
theorem d_MD_init_581 : decode c_MD_init 581 = .ok (.iastore, 1) := by decide +kernel
theorem d_MD_init_582 : decode c_MD_init 582 = .ok (.dup, 1) := by decide +kernel
theorem d_MD_init_583 : decode c_MD_init 583 = .ok (.bipush 80, 2) := by decide +kernel
theorem d_MD_init_585 : decode c_MD_init 585 = .ok (.bipush 111, 2) := by decide +kernel
theorem d_MD_init_587 : decode c_MD_init 587 = .ok (.iastore, 1) := by decide +kernel
theorem d_MD_init_588 : decode c_MD_init 588 = .ok (.dup, 1) := by decide +kernel
theorem d_MD_init_589 : decode c_MD_init 589 = .ok (.bipush 81, 2) := by decide +kernel
theorem d_MD_init_591 : decode c_MD_init 591 = .ok (.bipush 119, 2) := by decide +kernel
theorem d_MD_init_593 : decode c_MD_init 593 = .ok (.iastore, 1) := by decide +kernel
theorem d_MD_init_594 : decode c_MD_init 594 = .ok (.dup, 1) := by decide +kernel
theorem d_MD_init_595 : decode c_MD_init 595 = .ok (.bipush 82, 2) := by decide +kernel
theorem d_MD_init_597 : decode c_MD_init 597 = .ok (.bipush 110, 2) := by decide +kernel
theorem d_MD_init_599 : decode c_MD_init 599 = .ok (.iastore, 1) := by decide +kernel
theorem d_MD_init_600 : decode c_MD_init 600 = .ok (.dup, 1) := by decide +kernel
theorem d_MD_init_601 : decode c_MD_init 601 = .ok (.bipush 83, 2) := by decide +kernel
theorem d_MD_init_603 : decode c_MD_init 603 = .ok (.iconst 0, 1) := by decide +kernel
theorem d_MD_init_604 : decode c_MD_init 604 = .ok (.iastore, 1) := by decide +kernel
theorem d_MD_init_605 : decode c_MD_init 605 = .ok (.dup, 1) := by decide +kernel
theorem d_MD_init_606 : decode c_MD_init 606 = .ok (.bipush 84, 2) := by decide +kernel
theorem d_MD_init_608 : decode c_MD_init 608 = .ok (.iconst 0, 1) := by decide +kernel
theorem d_MD_init_609 : decode c_MD_init 609 = .ok (.iastore, 1) := by decide +kernel
theorem d_MD_init_610 : decode c_MD_init 610 = .ok (.dup, 1) := by decide +kernel
theorem d_MD_init_611 : decode c_MD_init 611 = .ok (.bipush 85, 2) := by decide +kernel
theorem d_MD_init_613 : decode c_MD_init 613 = .ok (.iconst 0, 1) := by decide +kernel
theorem d_MD_init_614 : decode c_MD_init 614 = .ok (.iastore, 1) := by decide +kernel
theorem d_MD_init_615 : decode c_MD_init 615 = .ok (.dup, 1) := by decide +kernel
theorem d_MD_init_616 : decode c_MD_init 616 = .ok (.bipush 86, 2) := by decide +kernel
theorem d_MD_init_618 : decode c_MD_init 618 = .ok (.iconst 0, 1) := by decide +kernel
theorem d_MD_init_619 : decode c_MD_init 619 = .ok (.iastore, 1) := by decide +kernel
theorem d_MD_init_620 : decode c_MD_init 620 = .ok (.dup, 1) := by decide +kernel
theorem d_MD_init_621 : decode c_MD_init 621 = .ok (.bipush 87, 2) := by decide +kernel
theorem d_MD_init_623 : decode c_MD_init 623 = .ok (.iconst 0, 1) := by decide +kernel
theorem d_MD_init_624 : decode c_MD_init 624 = .ok (.iastore, 1) := by decide +kernel
theorem d_MD_init_625 : decode c_MD_init 625 = .ok (.putfield 59, 3) := by decide +kernel
theorem d_MD_init_628 : decode c_MD_init 628 = .ok (.iconst 0, 1) := by decide +kernel
theorem d_MD_init_629 : decode c_MD_init 629 = .ok (.istore_n 1, 1) := by decide +kernel
theorem d_MD_init_630 : decode c_MD_init 630 = .ok (.iload_n 1, 1) := by decide +kernel
theorem d_MD_init_631 : decode c_MD_init 631 = .ok (.bipush 12, 2) := by decide +kernel
theorem d_MD_init_633 : decode c_MD_init 633 = .ok (.if_icmp .ge 58, 3) := by decide +kernel
theorem d_MD_init_636 : decode c_MD_init 636 = .ok (.aload_n 0, 1) := by decide +kernel
theorem d_MD_init_637 : decode c_MD_init 637 = .ok (.getfield 7, 3) := by decide +kernel
theorem d_MD_init_640 : decode c_MD_init 640 = .ok (.iconst 5, 1) := by decide +kernel
theorem d_MD_init_641 : decode c_MD_init 641 = .ok (.iload_n 1, 1) := by decide +kernel
theorem d_MD_init_642 : decode c_MD_init 642 = .ok (.imul, 1) := by decide +kernel
theorem d_MD_init_643 : decode c_MD_init 643 = .ok (.sipush 1000, 3) := by decide +kernel
theorem d_MD_init_646 : decode c_MD_init 646 = .ok (.iastore, 1) := by decide +kernel
theorem d_MD_init_647 : decode c_MD_init 647 = .ok (.aload_n 0, 1) := by decide +kernel
theorem d_MD_init_648 : decode c_MD_init 648 = .ok (.getfield 7, 3) := by decide +kernel
theorem d_MD_init_651 : decode c_MD_init 651 = .ok (.iconst 5, 1) := by decide +kernel
theorem d_MD_init_652 : decode c_MD_init 652 = .ok (.iload_n 1, 1) := by decide +kernel
theorem d_MD_init_653 : decode c_MD_init 653 = .ok (.imul, 1) := by decide +kernel
theorem d_MD_init_654 : decode c_MD_init 654 = .ok (.iconst 1, 1) := by decide +kernel
theorem d_MD_init_655 : decode c_MD_init 655 = .ok (.iadd, 1) := by decide +kernel
theorem d_MD_init_656 : decode c_MD_init 656 = .ok (.sipush 1000, 3) := by decide +kernel
theorem d_MD_init_659 : decode c_MD_init 659 = .ok (.iastore, 1) := by decide +kernel
theorem d_MD_init_660 : decode c_MD_init 660 = .ok (.aload_n 0, 1) := by decide +kernel
theorem d_MD_init_661 : decode c_MD_init 661 = .ok (.getfield 7, 3) := by decide +kernel
theorem d_MD_init_664 : decode c_MD_init 664 = .ok (.iconst 5, 1) := by decide +kernel
theorem d_MD_init_665 : decode c_MD_init 665 = .ok (.iload_n 1, 1) := by decide +kernel
theorem d_MD_init_666 : decode c_MD_init 666 = .ok (.imul, 1) := by decide +kernel
theorem d_MD_init_667 : decode c_MD_init 667 = .ok (.iconst 2, 1) := by decide +kernel
theorem d_MD_init_668 : decode c_MD_init 668 = .ok (.iadd, 1) := by decide +kernel
theorem d_MD_init_669 : decode c_MD_init 669 = .ok (.sipush 1000, 3) := by decide +kernel
theorem d_MD_init_672 : decode c_MD_init 672 = .ok (.iastore, 1) := by decide +kernel
theorem d_MD_init_673 : decode c_MD_init 673 = .ok (.aload_n 0, 1) := by decide +kernel
theorem d_MD_init_674 : decode c_MD_init 674 = .ok (.getfield 7, 3) := by decide +kernel
theorem d_MD_init_677 : decode c_MD_init 677 = .ok (.iconst 5, 1) := by decide +kernel
theorem d_MD_init_678 : decode c_MD_init 678 = .ok (.iload_n 1, 1) := by decide +kernel
theorem d_MD_init_679 : decode c_MD_init 679 = .ok (.imul, 1) := by decide +kernel
theorem d_MD_init_680 : decode c_MD_init 680 = .ok (.iconst 3, 1) := by decide +kernel
theorem d_MD_init_681 : decode c_MD_init 681 = .ok (.iadd, 1) := by decide +kernel
theorem d_MD_init_682 : decode c_MD_init 682 = .ok (.ldc 62, 2) := by decide +kernel
theorem d_MD_init_684 : decode c_MD_init 684 = .ok (.iastore, 1) := by decide +kernel
theorem d_MD_init_685 : decode c_MD_init 685 = .ok (.iinc 1 1, 3) := by decide +kernel
theorem d_MD_init_688 : decode c_MD_init 688 = .ok (.goto (-58), 3) := by decide +kernel
theorem d_MD_init_691 : decode c_MD_init 691 = .ok (.return_, 1) := by decide +kernel
theorem d_MD_thrown_0 : decode c_MD_thrown 0 = .ok (.aload_n 0, 1) := by decide +kernel
theorem d_MD_thrown_1 : decode c_MD_thrown 1 = .ok (.getfield 63, 3) := by decide +kernel
theorem d_MD_thrown_4 : decode c_MD_thrown 4 = .ok (.ireturn, 1) := by decide +kernel
theorem d_MD_in_0 : decode c_MD_in 0 = .ok (.iload_n 0, 1) := by decide +kernel
theorem d_MD_in_1 : decode c_MD_in 1 = .ok (.iload_n 1, 1) := by decide +kernel
theorem d_MD_in_2 : decode c_MD_in 2 = .ok (.if_icmp .lt 12, 3) := by decide +kernel
theorem d_MD_in_5 : decode c_MD_in 5 = .ok (.iload_n 0, 1) := by decide +kernel
theorem d_MD_in_6 : decode c_MD_in 6 = .ok (.iload_n 2, 1) := by decide +kernel
theorem d_MD_in_7 : decode c_MD_in 7 = .ok (.if_icmp .gt 7, 3) := by decide +kernel
theorem d_MD_in_10 : decode c_MD_in 10 = .ok (.iconst 1, 1) := by decide +kernel
theorem d_MD_in_11 : decode c_MD_in 11 = .ok (.goto 4, 3) := by decide +kernel
theorem d_MD_in_14 : decode c_MD_in 14 = .ok (.iconst 0, 1) := by decide +kernel
theorem d_MD_in_15 : decode c_MD_in 15 = .ok (.ireturn, 1) := by decide +kernel
theorem d_MD_fails_0 : decode c_MD_fails 0 = .ok (.aload_n 0, 1) := by decide +kernel
theorem d_MD_fails_1 : decode c_MD_fails 1 = .ok (.iload_n 1, 1) := by decide +kernel
theorem d_MD_fails_2 : decode c_MD_fails 2 = .ok (.ifCond .eq 7, 3) := by decide +kernel
theorem d_MD_fails_5 : decode c_MD_fails 5 = .ok (.iconst 1, 1) := by decide +kernel
theorem d_MD_fails_6 : decode c_MD_fails 6 = .ok (.goto 20, 3) := by decide +kernel
theorem d_MD_fails_9 : decode c_MD_fails 9 = .ok (.iload_n 2, 1) := by decide +kernel
theorem d_MD_fails_10 : decode c_MD_fails 10 = .ok (.ifCond .eq 7, 3) := by decide +kernel
theorem d_MD_fails_13 : decode c_MD_fails 13 = .ok (.iconst 2, 1) := by decide +kernel
theorem d_MD_fails_14 : decode c_MD_fails 14 = .ok (.goto 12, 3) := by decide +kernel
theorem d_MD_fails_17 : decode c_MD_fails 17 = .ok (.iload_n 3, 1) := by decide +kernel
theorem d_MD_fails_18 : decode c_MD_fails 18 = .ok (.ifCond .eq 7, 3) := by decide +kernel
theorem d_MD_fails_21 : decode c_MD_fails 21 = .ok (.iconst 3, 1) := by decide +kernel
theorem d_MD_fails_22 : decode c_MD_fails 22 = .ok (.goto 4, 3) := by decide +kernel
theorem d_MD_fails_25 : decode c_MD_fails 25 = .ok (.iconst 0, 1) := by decide +kernel
theorem d_MD_fails_26 : decode c_MD_fails 26 = .ok (.putfield 63, 3) := by decide +kernel
theorem d_MD_fails_29 : decode c_MD_fails 29 = .ok (.aload_n 0, 1) := by decide +kernel
theorem d_MD_fails_30 : decode c_MD_fails 30 = .ok (.getfield 63, 3) := by decide +kernel
theorem d_MD_fails_33 : decode c_MD_fails 33 = .ok (.ifCond .le 7, 3) := by decide +kernel
theorem d_MD_fails_36 : decode c_MD_fails 36 = .ok (.iconst 1, 1) := by decide +kernel
theorem d_MD_fails_37 : decode c_MD_fails 37 = .ok (.goto 4, 3) := by decide +kernel
theorem d_MD_fails_40 : decode c_MD_fails 40 = .ok (.iconst 0, 1) := by decide +kernel
theorem d_MD_fails_41 : decode c_MD_fails 41 = .ok (.ireturn, 1) := by decide +kernel
theorem d_MD_isSize_0 : decode c_MD_isSize 0 = .ok (.iload_n 0, 1) := by decide +kernel
theorem d_MD_isSize_1 : decode c_MD_isSize 1 = .ok (.iconst 1, 1) := by decide +kernel
theorem d_MD_isSize_2 : decode c_MD_isSize 2 = .ok (.sipush 9999, 3) := by decide +kernel
theorem d_MD_isSize_5 : decode c_MD_isSize 5 = .ok (.invokestatic 67, 3) := by decide +kernel
theorem d_MD_isSize_8 : decode c_MD_isSize 8 = .ok (.ifCond .eq 29, 3) := by decide +kernel
theorem d_MD_isSize_11 : decode c_MD_isSize 11 = .ok (.iload_n 1, 1) := by decide +kernel
theorem d_MD_isSize_12 : decode c_MD_isSize 12 = .ok (.iconst 1, 1) := by decide +kernel
theorem d_MD_isSize_13 : decode c_MD_isSize 13 = .ok (.sipush 9999, 3) := by decide +kernel
theorem d_MD_isSize_16 : decode c_MD_isSize 16 = .ok (.invokestatic 67, 3) := by decide +kernel
theorem d_MD_isSize_19 : decode c_MD_isSize 19 = .ok (.ifCond .eq 18, 3) := by decide +kernel
theorem d_MD_isSize_22 : decode c_MD_isSize 22 = .ok (.iload_n 2, 1) := by decide +kernel
theorem d_MD_isSize_23 : decode c_MD_isSize 23 = .ok (.iconst 1, 1) := by decide +kernel
theorem d_MD_isSize_24 : decode c_MD_isSize 24 = .ok (.sipush 9999, 3) := by decide +kernel
theorem d_MD_isSize_27 : decode c_MD_isSize 27 = .ok (.invokestatic 67, 3) := by decide +kernel
theorem d_MD_isSize_30 : decode c_MD_isSize 30 = .ok (.ifCond .eq 7, 3) := by decide +kernel
theorem d_MD_isSize_33 : decode c_MD_isSize 33 = .ok (.iconst 1, 1) := by decide +kernel
theorem d_MD_isSize_34 : decode c_MD_isSize 34 = .ok (.goto 4, 3) := by decide +kernel
theorem d_MD_isSize_37 : decode c_MD_isSize 37 = .ok (.iconst 0, 1) := by decide +kernel
theorem d_MD_isSize_38 : decode c_MD_isSize 38 = .ok (.ireturn, 1) := by decide +kernel
theorem d_MD_isPlace_0 : decode c_MD_isPlace 0 = .ok (.iload_n 0, 1) := by decide +kernel
theorem d_MD_isPlace_1 : decode c_MD_isPlace 1 = .ok (.iconst 0, 1) := by decide +kernel
theorem d_MD_isPlace_2 : decode c_MD_isPlace 2 = .ok (.bipush 11, 2) := by decide +kernel
theorem d_MD_isPlace_4 : decode c_MD_isPlace 4 = .ok (.invokestatic 67, 3) := by decide +kernel
theorem d_MD_isPlace_7 : decode c_MD_isPlace 7 = .ok (.ireturn, 1) := by decide +kernel
theorem d_MD_place_0 : decode c_MD_place 0 = .ok (.aload_n 0, 1) := by decide +kernel
theorem d_MD_place_1 : decode c_MD_place 1 = .ok (.iload_n 1, 1) := by decide +kernel
theorem d_MD_place_2 : decode c_MD_place 2 = .ok (.invokestatic 71, 3) := by decide +kernel
theorem d_MD_place_5 : decode c_MD_place 5 = .ok (.ifCond .eq 13, 3) := by decide +kernel
theorem d_MD_place_8 : decode c_MD_place 8 = .ok (.iload_n 2, 1) := by decide +kernel
theorem d_MD_place_9 : decode c_MD_place 9 = .ok (.iload_n 3, 1) := by decide +kernel
theorem d_MD_place_10 : decode c_MD_place 10 = .ok (.iload 4, 2) := by decide +kernel
theorem d_MD_place_12 : decode c_MD_place 12 = .ok (.invokestatic 75, 3) := by decide +kernel
theorem d_MD_place_15 : decode c_MD_place 15 = .ok (.ifCond .ne 7, 3) := by decide +kernel
theorem d_MD_place_18 : decode c_MD_place 18 = .ok (.iconst 1, 1) := by decide +kernel
theorem d_MD_place_19 : decode c_MD_place 19 = .ok (.goto 4, 3) := by decide +kernel
theorem d_MD_place_22 : decode c_MD_place 22 = .ok (.iconst 0, 1) := by decide +kernel
theorem d_MD_place_23 : decode c_MD_place 23 = .ok (.iconst 0, 1) := by decide +kernel
theorem d_MD_place_24 : decode c_MD_place 24 = .ok (.iconst 0, 1) := by decide +kernel
theorem d_MD_place_25 : decode c_MD_place 25 = .ok (.invokevirtual 78, 3) := by decide +kernel
theorem d_MD_place_28 : decode c_MD_place 28 = .ok (.ifCond .ne 35, 3) := by decide +kernel
theorem d_MD_place_31 : decode c_MD_place 31 = .ok (.aload_n 0, 1) := by decide +kernel
theorem d_MD_place_32 : decode c_MD_place 32 = .ok (.getfield 7, 3) := by decide +kernel
theorem d_MD_place_35 : decode c_MD_place 35 = .ok (.iconst 5, 1) := by decide +kernel
theorem d_MD_place_36 : decode c_MD_place 36 = .ok (.iload_n 1, 1) := by decide +kernel
theorem d_MD_place_37 : decode c_MD_place 37 = .ok (.imul, 1) := by decide +kernel
theorem d_MD_place_38 : decode c_MD_place 38 = .ok (.iload_n 2, 1) := by decide +kernel
theorem d_MD_place_39 : decode c_MD_place 39 = .ok (.iastore, 1) := by decide +kernel
theorem d_MD_place_40 : decode c_MD_place 40 = .ok (.aload_n 0, 1) := by decide +kernel
theorem d_MD_place_41 : decode c_MD_place 41 = .ok (.getfield 7, 3) := by decide +kernel
theorem d_MD_place_44 : decode c_MD_place 44 = .ok (.iconst 5, 1) := by decide +kernel
theorem d_MD_place_45 : decode c_MD_place 45 = .ok (.iload_n 1, 1) := by decide +kernel
theorem d_MD_place_46 : decode c_MD_place 46 = .ok (.imul, 1) := by decide +kernel
theorem d_MD_place_47 : decode c_MD_place 47 = .ok (.iconst 1, 1) := by decide +kernel
theorem d_MD_place_48 : decode c_MD_place 48 = .ok (.iadd, 1) := by decide +kernel
theorem d_MD_place_49 : decode c_MD_place 49 = .ok (.iload_n 3, 1) := by decide +kernel
theorem d_MD_place_50 : decode c_MD_place 50 = .ok (.iastore, 1) := by decide +kernel
theorem d_MD_place_51 : decode c_MD_place 51 = .ok (.aload_n 0, 1) := by decide +kernel
theorem d_MD_place_52 : decode c_MD_place 52 = .ok (.getfield 7, 3) := by decide +kernel
theorem d_MD_place_55 : decode c_MD_place 55 = .ok (.iconst 5, 1) := by decide +kernel
theorem d_MD_place_56 : decode c_MD_place 56 = .ok (.iload_n 1, 1) := by decide +kernel
theorem d_MD_place_57 : decode c_MD_place 57 = .ok (.imul, 1) := by decide +kernel
theorem d_MD_place_58 : decode c_MD_place 58 = .ok (.iconst 2, 1) := by decide +kernel
theorem d_MD_place_59 : decode c_MD_place 59 = .ok (.iadd, 1) := by decide +kernel
theorem d_MD_place_60 : decode c_MD_place 60 = .ok (.iload 4, 2) := by decide +kernel
theorem d_MD_place_62 : decode c_MD_place 62 = .ok (.iastore, 1) := by decide +kernel
theorem d_MD_place_63 : decode c_MD_place 63 = .ok (.return_, 1) := by decide +kernel
theorem d_MD_limit_0 : decode c_MD_limit 0 = .ok (.aload_n 0, 1) := by decide +kernel
theorem d_MD_limit_1 : decode c_MD_limit 1 = .ok (.iload_n 1, 1) := by decide +kernel
theorem d_MD_limit_2 : decode c_MD_limit 2 = .ok (.invokestatic 71, 3) := by decide +kernel
theorem d_MD_limit_5 : decode c_MD_limit 5 = .ok (.ifCond .eq 23, 3) := by decide +kernel
theorem d_MD_limit_8 : decode c_MD_limit 8 = .ok (.iload_n 2, 1) := by decide +kernel
theorem d_MD_limit_9 : decode c_MD_limit 9 = .ok (.iconst 0, 1) := by decide +kernel
theorem d_MD_limit_10 : decode c_MD_limit 10 = .ok (.ldc 82, 2) := by decide +kernel
theorem d_MD_limit_12 : decode c_MD_limit 12 = .ok (.invokestatic 67, 3) := by decide +kernel
theorem d_MD_limit_15 : decode c_MD_limit 15 = .ok (.ifCond .eq 13, 3) := by decide +kernel
theorem d_MD_limit_18 : decode c_MD_limit 18 = .ok (.iload_n 3, 1) := by decide +kernel
theorem d_MD_limit_19 : decode c_MD_limit 19 = .ok (.iconst 0, 1) := by decide +kernel
theorem d_MD_limit_20 : decode c_MD_limit 20 = .ok (.bipush 7, 2) := by decide +kernel
theorem d_MD_limit_22 : decode c_MD_limit 22 = .ok (.invokestatic 67, 3) := by decide +kernel
theorem d_MD_limit_25 : decode c_MD_limit 25 = .ok (.ifCond .ne 7, 3) := by decide +kernel
theorem d_MD_limit_28 : decode c_MD_limit 28 = .ok (.iconst 1, 1) := by decide +kernel
theorem d_MD_limit_29 : decode c_MD_limit 29 = .ok (.goto 4, 3) := by decide +kernel
theorem d_MD_limit_32 : decode c_MD_limit 32 = .ok (.iconst 0, 1) := by decide +kernel
theorem d_MD_limit_33 : decode c_MD_limit 33 = .ok (.iconst 0, 1) := by decide +kernel
theorem d_MD_limit_34 : decode c_MD_limit 34 = .ok (.iconst 0, 1) := by decide +kernel
theorem d_MD_limit_35 : decode c_MD_limit 35 = .ok (.invokevirtual 78, 3) := by decide +kernel
theorem d_MD_limit_38 : decode c_MD_limit 38 = .ok (.ifCond .ne 25, 3) := by decide +kernel
theorem d_MD_limit_41 : decode c_MD_limit 41 = .ok (.aload_n 0, 1) := by decide +kernel
theorem d_MD_limit_42 : decode c_MD_limit 42 = .ok (.getfield 7, 3) := by decide +kernel
theorem d_MD_limit_45 : decode c_MD_limit 45 = .ok (.iconst 5, 1) := by decide +kernel
theorem d_MD_limit_46 : decode c_MD_limit 46 = .ok (.iload_n 1, 1) := by decide +kernel
theorem d_MD_limit_47 : decode c_MD_limit 47 = .ok (.imul, 1) := by decide +kernel
theorem d_MD_limit_48 : decode c_MD_limit 48 = .ok (.iconst 3, 1) := by decide +kernel
theorem d_MD_limit_49 : decode c_MD_limit 49 = .ok (.iadd, 1) := by decide +kernel
theorem d_MD_limit_50 : decode c_MD_limit 50 = .ok (.iload_n 2, 1) := by decide +kernel
theorem d_MD_limit_51 : decode c_MD_limit 51 = .ok (.iastore, 1) := by decide +kernel
theorem d_MD_limit_52 : decode c_MD_limit 52 = .ok (.aload_n 0, 1) := by decide +kernel
theorem d_MD_limit_53 : decode c_MD_limit 53 = .ok (.getfield 7, 3) := by decide +kernel
theorem d_MD_limit_56 : decode c_MD_limit 56 = .ok (.iconst 5, 1) := by decide +kernel
theorem d_MD_limit_57 : decode c_MD_limit 57 = .ok (.iload_n 1, 1) := by decide +kernel
theorem d_MD_limit_58 : decode c_MD_limit 58 = .ok (.imul, 1) := by decide +kernel
theorem d_MD_limit_59 : decode c_MD_limit 59 = .ok (.iconst 4, 1) := by decide +kernel
theorem d_MD_limit_60 : decode c_MD_limit 60 = .ok (.iadd, 1) := by decide +kernel
theorem d_MD_limit_61 : decode c_MD_limit 61 = .ok (.iload_n 3, 1) := by decide +kernel
theorem d_MD_limit_62 : decode c_MD_limit 62 = .ok (.iastore, 1) := by decide +kernel
theorem d_MD_limit_63 : decode c_MD_limit 63 = .ok (.return_, 1) := by decide +kernel
theorem d_MD_lay_0 : decode c_MD_lay 0 = .ok (.aload_n 0, 1) := by decide +kernel
theorem d_MD_lay_1 : decode c_MD_lay 1 = .ok (.getfield 13, 3) := by decide +kernel
theorem d_MD_lay_4 : decode c_MD_lay 4 = .ok (.bipush 10, 2) := by decide +kernel
theorem d_MD_lay_6 : decode c_MD_lay 6 = .ok (.iload_n 1, 1) := by decide +kernel
theorem d_MD_lay_7 : decode c_MD_lay 7 = .ok (.imul, 1) := by decide +kernel
theorem d_MD_lay_8 : decode c_MD_lay 8 = .ok (.iload_n 2, 1) := by decide +kernel
theorem d_MD_lay_9 : decode c_MD_lay 9 = .ok (.iadd, 1) := by decide +kernel
theorem d_MD_lay_10 : decode c_MD_lay 10 = .ok (.iload_n 3, 1) := by decide +kernel
theorem d_MD_lay_11 : decode c_MD_lay 11 = .ok (.iastore, 1) := by decide +kernel
theorem d_MD_lay_12 : decode c_MD_lay 12 = .ok (.aload_n 0, 1) := by decide +kernel
theorem d_MD_lay_13 : decode c_MD_lay 13 = .ok (.getfield 13, 3) := by decide +kernel
theorem d_MD_lay_16 : decode c_MD_lay 16 = .ok (.bipush 10, 2) := by decide +kernel
theorem d_MD_lay_18 : decode c_MD_lay 18 = .ok (.iload_n 1, 1) := by decide +kernel
theorem d_MD_lay_19 : decode c_MD_lay 19 = .ok (.imul, 1) := by decide +kernel
theorem d_MD_lay_20 : decode c_MD_lay 20 = .ok (.iload_n 2, 1) := by decide +kernel
theorem d_MD_lay_21 : decode c_MD_lay 21 = .ok (.iadd, 1) := by decide +kernel
theorem d_MD_lay_22 : decode c_MD_lay 22 = .ok (.iconst 1, 1) := by decide +kernel
theorem d_MD_lay_23 : decode c_MD_lay 23 = .ok (.iadd, 1) := by decide +kernel
theorem d_MD_lay_24 : decode c_MD_lay 24 = .ok (.iload 4, 2) := by decide +kernel
theorem d_MD_lay_26 : decode c_MD_lay 26 = .ok (.iastore, 1) := by decide +kernel
theorem d_MD_lay_27 : decode c_MD_lay 27 = .ok (.aload_n 0, 1) := by decide +kernel
theorem d_MD_lay_28 : decode c_MD_lay 28 = .ok (.getfield 13, 3) := by decide +kernel
theorem d_MD_lay_31 : decode c_MD_lay 31 = .ok (.bipush 10, 2) := by decide +kernel
theorem d_MD_lay_33 : decode c_MD_lay 33 = .ok (.iload_n 1, 1) := by decide +kernel
theorem d_MD_lay_34 : decode c_MD_lay 34 = .ok (.imul, 1) := by decide +kernel
theorem d_MD_lay_35 : decode c_MD_lay 35 = .ok (.iload_n 2, 1) := by decide +kernel
theorem d_MD_lay_36 : decode c_MD_lay 36 = .ok (.iadd, 1) := by decide +kernel
theorem d_MD_lay_37 : decode c_MD_lay 37 = .ok (.iconst 2, 1) := by decide +kernel
theorem d_MD_lay_38 : decode c_MD_lay 38 = .ok (.iadd, 1) := by decide +kernel
theorem d_MD_lay_39 : decode c_MD_lay 39 = .ok (.iload 5, 2) := by decide +kernel
theorem d_MD_lay_41 : decode c_MD_lay 41 = .ok (.iastore, 1) := by decide +kernel
theorem d_MD_lay_42 : decode c_MD_lay 42 = .ok (.return_, 1) := by decide +kernel
theorem d_MD_unit_0 : decode c_MD_unit 0 = .ok (.aload_n 0, 1) := by decide +kernel
theorem d_MD_unit_1 : decode c_MD_unit 1 = .ok (.iload_n 1, 1) := by decide +kernel
theorem d_MD_unit_2 : decode c_MD_unit 2 = .ok (.iconst 0, 1) := by decide +kernel
theorem d_MD_unit_3 : decode c_MD_unit 3 = .ok (.bipush 99, 2) := by decide +kernel
theorem d_MD_unit_5 : decode c_MD_unit 5 = .ok (.invokestatic 67, 3) := by decide +kernel
theorem d_MD_unit_8 : decode c_MD_unit 8 = .ok (.ifCond .eq 23, 3) := by decide +kernel
theorem d_MD_unit_11 : decode c_MD_unit 11 = .ok (.iload_n 2, 1) := by decide +kernel
theorem d_MD_unit_12 : decode c_MD_unit 12 = .ok (.iconst 0, 1) := by decide +kernel
theorem d_MD_unit_13 : decode c_MD_unit 13 = .ok (.bipush 99, 2) := by decide +kernel
theorem d_MD_unit_15 : decode c_MD_unit 15 = .ok (.invokestatic 67, 3) := by decide +kernel
theorem d_MD_unit_18 : decode c_MD_unit 18 = .ok (.ifCond .eq 13, 3) := by decide +kernel
theorem d_MD_unit_21 : decode c_MD_unit 21 = .ok (.iload_n 3, 1) := by decide +kernel
theorem d_MD_unit_22 : decode c_MD_unit 22 = .ok (.iconst 0, 1) := by decide +kernel
theorem d_MD_unit_23 : decode c_MD_unit 23 = .ok (.bipush 7, 2) := by decide +kernel
theorem d_MD_unit_25 : decode c_MD_unit 25 = .ok (.invokestatic 67, 3) := by decide +kernel
theorem d_MD_unit_28 : decode c_MD_unit 28 = .ok (.ifCond .ne 7, 3) := by decide +kernel
theorem d_MD_unit_31 : decode c_MD_unit 31 = .ok (.iconst 1, 1) := by decide +kernel
theorem d_MD_unit_32 : decode c_MD_unit 32 = .ok (.goto 4, 3) := by decide +kernel
theorem d_MD_unit_35 : decode c_MD_unit 35 = .ok (.iconst 0, 1) := by decide +kernel
theorem d_MD_unit_36 : decode c_MD_unit 36 = .ok (.aload_n 0, 1) := by decide +kernel
theorem d_MD_unit_37 : decode c_MD_unit 37 = .ok (.getfield 83, 3) := by decide +kernel
theorem d_MD_unit_40 : decode c_MD_unit 40 = .ok (.bipush 40, 2) := by decide +kernel
theorem d_MD_unit_42 : decode c_MD_unit 42 = .ok (.if_icmp .ne 7, 3) := by decide +kernel
theorem d_MD_unit_45 : decode c_MD_unit 45 = .ok (.iconst 1, 1) := by decide +kernel
theorem d_MD_unit_46 : decode c_MD_unit 46 = .ok (.goto 4, 3) := by decide +kernel
theorem d_MD_unit_49 : decode c_MD_unit 49 = .ok (.iconst 0, 1) := by decide +kernel
theorem d_MD_unit_50 : decode c_MD_unit 50 = .ok (.iconst 0, 1) := by decide +kernel
theorem d_MD_unit_51 : decode c_MD_unit 51 = .ok (.invokevirtual 78, 3) := by decide +kernel
theorem d_MD_unit_54 : decode c_MD_unit 54 = .ok (.ifCond .eq 5, 3) := by decide +kernel
theorem d_MD_unit_57 : decode c_MD_unit 57 = .ok (.iconst 0, 1) := by decide +kernel
theorem d_MD_unit_58 : decode c_MD_unit 58 = .ok (.ireturn, 1) := by decide +kernel
theorem d_MD_unit_59 : decode c_MD_unit 59 = .ok (.aload_n 0, 1) := by decide +kernel
theorem d_MD_unit_60 : decode c_MD_unit 60 = .ok (.aload_n 0, 1) := by decide +kernel
theorem d_MD_unit_61 : decode c_MD_unit 61 = .ok (.getfield 83, 3) := by decide +kernel
theorem d_MD_unit_64 : decode c_MD_unit 64 = .ok (.iconst 0, 1) := by decide +kernel
theorem d_MD_unit_65 : decode c_MD_unit 65 = .ok (.iload_n 1, 1) := by decide +kernel
theorem d_MD_unit_66 : decode c_MD_unit 66 = .ok (.iload_n 2, 1) := by decide +kernel
theorem d_MD_unit_67 : decode c_MD_unit 67 = .ok (.iload_n 3, 1) := by decide +kernel
theorem d_MD_unit_68 : decode c_MD_unit 68 = .ok (.invokevirtual 86, 3) := by decide +kernel
theorem d_MD_unit_71 : decode c_MD_unit 71 = .ok (.aload_n 0, 1) := by decide +kernel
theorem d_MD_unit_72 : decode c_MD_unit 72 = .ok (.aload_n 0, 1) := by decide +kernel
theorem d_MD_unit_73 : decode c_MD_unit 73 = .ok (.getfield 83, 3) := by decide +kernel
theorem d_MD_unit_76 : decode c_MD_unit 76 = .ok (.iconst 3, 1) := by decide +kernel
theorem d_MD_unit_77 : decode c_MD_unit 77 = .ok (.bipush 100, 2) := by decide +kernel
theorem d_MD_unit_79 : decode c_MD_unit 79 = .ok (.bipush 100, 2) := by decide +kernel
theorem d_MD_unit_81 : decode c_MD_unit 81 = .ok (.bipush 100, 2) := by decide +kernel
theorem d_MD_unit_83 : decode c_MD_unit 83 = .ok (.invokevirtual 86, 3) := by decide +kernel
theorem d_MD_unit_86 : decode c_MD_unit 86 = .ok (.aload_n 0, 1) := by decide +kernel
theorem d_MD_unit_87 : decode c_MD_unit 87 = .ok (.getfield 13, 3) := by decide +kernel
theorem d_MD_unit_90 : decode c_MD_unit 90 = .ok (.bipush 10, 2) := by decide +kernel
theorem d_MD_unit_92 : decode c_MD_unit 92 = .ok (.aload_n 0, 1) := by decide +kernel
theorem d_MD_unit_93 : decode c_MD_unit 93 = .ok (.getfield 83, 3) := by decide +kernel
theorem d_MD_unit_96 : decode c_MD_unit 96 = .ok (.imul, 1) := by decide +kernel
theorem d_MD_unit_97 : decode c_MD_unit 97 = .ok (.bipush 6, 2) := by decide +kernel
theorem d_MD_unit_99 : decode c_MD_unit 99 = .ok (.iadd, 1) := by decide +kernel
theorem d_MD_unit_100 : decode c_MD_unit 100 = .ok (.sipush 1000, 3) := by decide +kernel
theorem d_MD_unit_103 : decode c_MD_unit 103 = .ok (.iastore, 1) := by decide +kernel
theorem d_MD_unit_104 : decode c_MD_unit 104 = .ok (.aload_n 0, 1) := by decide +kernel
theorem d_MD_unit_105 : decode c_MD_unit 105 = .ok (.aload_n 0, 1) := by decide +kernel
theorem d_MD_unit_106 : decode c_MD_unit 106 = .ok (.getfield 83, 3) := by decide +kernel
theorem d_MD_unit_109 : decode c_MD_unit 109 = .ok (.bipush 7, 2) := by decide +kernel
theorem d_MD_unit_111 : decode c_MD_unit 111 = .ok (.iconst 0, 1) := by decide +kernel
theorem d_MD_unit_112 : decode c_MD_unit 112 = .ok (.iconst 0, 1) := by decide +kernel
theorem d_MD_unit_113 : decode c_MD_unit 113 = .ok (.sipush 1000, 3) := by decide +kernel
theorem d_MD_unit_116 : decode c_MD_unit 116 = .ok (.invokevirtual 86, 3) := by decide +kernel
theorem d_MD_unit_119 : decode c_MD_unit 119 = .ok (.aload_n 0, 1) := by decide +kernel
theorem d_MD_unit_120 : decode c_MD_unit 120 = .ok (.getfield 16, 3) := by decide +kernel
theorem d_MD_unit_123 : decode c_MD_unit 123 = .ok (.aload_n 0, 1) := by decide +kernel
theorem d_MD_unit_124 : decode c_MD_unit 124 = .ok (.getfield 83, 3) := by decide +kernel
theorem d_MD_unit_127 : decode c_MD_unit 127 = .ok (.iconst (-1), 1) := by decide +kernel
theorem d_MD_unit_128 : decode c_MD_unit 128 = .ok (.iastore, 1) := by decide +kernel
theorem d_MD_unit_129 : decode c_MD_unit 129 = .ok (.aload_n 0, 1) := by decide +kernel
theorem d_MD_unit_130 : decode c_MD_unit 130 = .ok (.dup, 1) := by decide +kernel
theorem d_MD_unit_131 : decode c_MD_unit 131 = .ok (.getfield 83, 3) := by decide +kernel
theorem d_MD_unit_134 : decode c_MD_unit 134 = .ok (.iconst 1, 1) := by decide +kernel
theorem d_MD_unit_135 : decode c_MD_unit 135 = .ok (.iadd, 1) := by decide +kernel
theorem d_MD_unit_136 : decode c_MD_unit 136 = .ok (.putfield 83, 3) := by decide +kernel
theorem d_MD_unit_139 : decode c_MD_unit 139 = .ok (.aload_n 0, 1) := by decide +kernel
theorem d_MD_unit_140 : decode c_MD_unit 140 = .ok (.getfield 83, 3) := by decide +kernel
theorem d_MD_unit_143 : decode c_MD_unit 143 = .ok (.iconst 1, 1) := by decide +kernel
theorem d_MD_unit_144 : decode c_MD_unit 144 = .ok (.isub, 1) := by decide +kernel
theorem d_MD_unit_145 : decode c_MD_unit 145 = .ok (.ireturn, 1) := by decide +kernel
theorem d_MD_isUnit_0 : decode c_MD_isUnit 0 = .ok (.iload_n 1, 1) := by decide +kernel
theorem d_MD_isUnit_1 : decode c_MD_isUnit 1 = .ok (.iconst 0, 1) := by decide +kernel
theorem d_MD_isUnit_2 : decode c_MD_isUnit 2 = .ok (.aload_n 0, 1) := by decide +kernel
theorem d_MD_isUnit_3 : decode c_MD_isUnit 3 = .ok (.getfield 83, 3) := by decide +kernel
theorem d_MD_isUnit_6 : decode c_MD_isUnit 6 = .ok (.iconst 1, 1) := by decide +kernel
theorem d_MD_isUnit_7 : decode c_MD_isUnit 7 = .ok (.isub, 1) := by decide +kernel
theorem d_MD_isUnit_8 : decode c_MD_isUnit 8 = .ok (.invokestatic 67, 3) := by decide +kernel
theorem d_MD_isUnit_11 : decode c_MD_isUnit 11 = .ok (.ireturn, 1) := by decide +kernel
theorem d_MD_size_0 : decode c_MD_size 0 = .ok (.iload_n 2, 1) := by decide +kernel
theorem d_MD_size_1 : decode c_MD_size 1 = .ok (.iload_n 3, 1) := by decide +kernel
theorem d_MD_size_2 : decode c_MD_size 2 = .ok (.iload 4, 2) := by decide +kernel
theorem d_MD_size_4 : decode c_MD_size 4 = .ok (.invokestatic 75, 3) := by decide +kernel
theorem d_MD_size_7 : decode c_MD_size 7 = .ok (.ifCond .eq 14, 3) := by decide +kernel
theorem d_MD_size_10 : decode c_MD_size 10 = .ok (.iload 5, 2) := by decide +kernel
theorem d_MD_size_12 : decode c_MD_size 12 = .ok (.iconst 1, 1) := by decide +kernel
theorem d_MD_size_13 : decode c_MD_size 13 = .ok (.ldc 90, 2) := by decide +kernel
theorem d_MD_size_15 : decode c_MD_size 15 = .ok (.invokestatic 67, 3) := by decide +kernel
theorem d_MD_size_18 : decode c_MD_size 18 = .ok (.ifCond .ne 7, 3) := by decide +kernel
theorem d_MD_size_21 : decode c_MD_size 21 = .ok (.iconst 1, 1) := by decide +kernel
theorem d_MD_size_22 : decode c_MD_size 22 = .ok (.goto 4, 3) := by decide +kernel
theorem d_MD_size_25 : decode c_MD_size 25 = .ok (.iconst 0, 1) := by decide +kernel
theorem d_MD_size_26 : decode c_MD_size 26 = .ok (.istore 6, 2) := by decide +kernel
theorem d_MD_size_28 : decode c_MD_size 28 = .ok (.aload_n 0, 1) := by decide +kernel
theorem d_MD_size_29 : decode c_MD_size 29 = .ok (.aload_n 0, 1) := by decide +kernel
theorem d_MD_size_30 : decode c_MD_size 30 = .ok (.iload_n 1, 1) := by decide +kernel
theorem d_MD_size_31 : decode c_MD_size 31 = .ok (.invokevirtual 91, 3) := by decide +kernel
theorem d_MD_size_34 : decode c_MD_size 34 = .ok (.ifCond .ne 7, 3) := by decide +kernel
theorem d_MD_size_37 : decode c_MD_size 37 = .ok (.iconst 1, 1) := by decide +kernel
theorem d_MD_size_38 : decode c_MD_size 38 = .ok (.goto 4, 3) := by decide +kernel
theorem d_MD_size_41 : decode c_MD_size 41 = .ok (.iconst 0, 1) := by decide +kernel
theorem d_MD_size_42 : decode c_MD_size 42 = .ok (.iload 6, 2) := by decide +kernel
theorem d_MD_size_44 : decode c_MD_size 44 = .ok (.aload_n 0, 1) := by decide +kernel
theorem d_MD_size_45 : decode c_MD_size 45 = .ok (.iload_n 1, 1) := by decide +kernel
theorem d_MD_size_46 : decode c_MD_size 46 = .ok (.invokevirtual 91, 3) := by decide +kernel
theorem d_MD_size_49 : decode c_MD_size 49 = .ok (.ifCond .eq 16, 3) := by decide +kernel
theorem d_MD_size_52 : decode c_MD_size 52 = .ok (.aload_n 0, 1) := by decide +kernel
theorem d_MD_size_53 : decode c_MD_size 53 = .ok (.getfield 16, 3) := by decide +kernel
theorem d_MD_size_56 : decode c_MD_size 56 = .ok (.iload_n 1, 1) := by decide +kernel
theorem d_MD_size_57 : decode c_MD_size 57 = .ok (.iaload, 1) := by decide +kernel
theorem d_MD_size_58 : decode c_MD_size 58 = .ok (.ifCond .lt 7, 3) := by decide +kernel
theorem d_MD_size_61 : decode c_MD_size 61 = .ok (.iconst 1, 1) := by decide +kernel
theorem d_MD_size_62 : decode c_MD_size 62 = .ok (.goto 4, 3) := by decide +kernel
theorem d_MD_size_65 : decode c_MD_size 65 = .ok (.iconst 0, 1) := by decide +kernel
theorem d_MD_size_66 : decode c_MD_size 66 = .ok (.invokevirtual 78, 3) := by decide +kernel
theorem d_MD_size_69 : decode c_MD_size 69 = .ok (.ifCond .ne 27, 3) := by decide +kernel
theorem d_MD_size_72 : decode c_MD_size 72 = .ok (.aload_n 0, 1) := by decide +kernel
theorem d_MD_size_73 : decode c_MD_size 73 = .ok (.iload_n 1, 1) := by decide +kernel
theorem d_MD_size_74 : decode c_MD_size 74 = .ok (.iconst 3, 1) := by decide +kernel
theorem d_MD_size_75 : decode c_MD_size 75 = .ok (.iload_n 2, 1) := by decide +kernel
theorem d_MD_size_76 : decode c_MD_size 76 = .ok (.iload_n 3, 1) := by decide +kernel
theorem d_MD_size_77 : decode c_MD_size 77 = .ok (.iload 4, 2) := by decide +kernel
theorem d_MD_size_79 : decode c_MD_size 79 = .ok (.invokevirtual 86, 3) := by decide +kernel
theorem d_MD_size_82 : decode c_MD_size 82 = .ok (.aload_n 0, 1) := by decide +kernel
theorem d_MD_size_83 : decode c_MD_size 83 = .ok (.getfield 13, 3) := by decide +kernel
theorem d_MD_size_86 : decode c_MD_size 86 = .ok (.bipush 10, 2) := by decide +kernel
theorem d_MD_size_88 : decode c_MD_size 88 = .ok (.iload_n 1, 1) := by decide +kernel
theorem d_MD_size_89 : decode c_MD_size 89 = .ok (.imul, 1) := by decide +kernel
theorem d_MD_size_90 : decode c_MD_size 90 = .ok (.bipush 6, 2) := by decide +kernel
theorem d_MD_size_92 : decode c_MD_size 92 = .ok (.iadd, 1) := by decide +kernel
theorem d_MD_size_93 : decode c_MD_size 93 = .ok (.iload 5, 2) := by decide +kernel
theorem d_MD_size_95 : decode c_MD_size 95 = .ok (.iastore, 1) := by decide +kernel
theorem d_MD_size_96 : decode c_MD_size 96 = .ok (.return_, 1) := by decide +kernel
theorem d_MD_nature_0 : decode c_MD_nature 0 = .ok (.iload_n 2, 1) := by decide +kernel
theorem d_MD_nature_1 : decode c_MD_nature 1 = .ok (.iconst 0, 1) := by decide +kernel
theorem d_MD_nature_2 : decode c_MD_nature 2 = .ok (.bipush 7, 2) := by decide +kernel
theorem d_MD_nature_4 : decode c_MD_nature 4 = .ok (.invokestatic 67, 3) := by decide +kernel
theorem d_MD_nature_7 : decode c_MD_nature 7 = .ok (.ifCond .eq 25, 3) := by decide +kernel
theorem d_MD_nature_10 : decode c_MD_nature 10 = .ok (.iload_n 3, 1) := by decide +kernel
theorem d_MD_nature_11 : decode c_MD_nature 11 = .ok (.iconst 0, 1) := by decide +kernel
theorem d_MD_nature_12 : decode c_MD_nature 12 = .ok (.bipush 7, 2) := by decide +kernel
theorem d_MD_nature_14 : decode c_MD_nature 14 = .ok (.invokestatic 67, 3) := by decide +kernel
theorem d_MD_nature_17 : decode c_MD_nature 17 = .ok (.ifCond .eq 15, 3) := by decide +kernel
theorem d_MD_nature_20 : decode c_MD_nature 20 = .ok (.iload 4, 2) := by decide +kernel
theorem d_MD_nature_22 : decode c_MD_nature 22 = .ok (.iconst 0, 1) := by decide +kernel
theorem d_MD_nature_23 : decode c_MD_nature 23 = .ok (.sipush 1000, 3) := by decide +kernel
theorem d_MD_nature_26 : decode c_MD_nature 26 = .ok (.invokestatic 67, 3) := by decide +kernel
theorem d_MD_nature_29 : decode c_MD_nature 29 = .ok (.ifCond .ne 7, 3) := by decide +kernel
theorem d_MD_nature_32 : decode c_MD_nature 32 = .ok (.iconst 1, 1) := by decide +kernel
theorem d_MD_nature_33 : decode c_MD_nature 33 = .ok (.goto 4, 3) := by decide +kernel
theorem d_MD_nature_36 : decode c_MD_nature 36 = .ok (.iconst 0, 1) := by decide +kernel
theorem d_MD_nature_37 : decode c_MD_nature 37 = .ok (.istore 5, 2) := by decide +kernel
theorem d_MD_nature_39 : decode c_MD_nature 39 = .ok (.aload_n 0, 1) := by decide +kernel
theorem d_MD_nature_40 : decode c_MD_nature 40 = .ok (.aload_n 0, 1) := by decide +kernel
theorem d_MD_nature_41 : decode c_MD_nature 41 = .ok (.iload_n 1, 1) := by decide +kernel
theorem d_MD_nature_42 : decode c_MD_nature 42 = .ok (.invokevirtual 91, 3) := by decide +kernel
theorem d_MD_nature_45 : decode c_MD_nature 45 = .ok (.ifCond .ne 7, 3) := by decide +kernel
theorem d_MD_nature_48 : decode c_MD_nature 48 = .ok (.iconst 1, 1) := by decide +kernel
theorem d_MD_nature_49 : decode c_MD_nature 49 = .ok (.goto 4, 3) := by decide +kernel
theorem d_MD_nature_52 : decode c_MD_nature 52 = .ok (.iconst 0, 1) := by decide +kernel
theorem d_MD_nature_53 : decode c_MD_nature 53 = .ok (.iload 5, 2) := by decide +kernel
theorem d_MD_nature_55 : decode c_MD_nature 55 = .ok (.aload_n 0, 1) := by decide +kernel
theorem d_MD_nature_56 : decode c_MD_nature 56 = .ok (.iload_n 1, 1) := by decide +kernel
theorem d_MD_nature_57 : decode c_MD_nature 57 = .ok (.invokevirtual 91, 3) := by decide +kernel
theorem d_MD_nature_60 : decode c_MD_nature 60 = .ok (.ifCond .eq 16, 3) := by decide +kernel
theorem d_MD_nature_63 : decode c_MD_nature 63 = .ok (.aload_n 0, 1) := by decide +kernel
theorem d_MD_nature_64 : decode c_MD_nature 64 = .ok (.getfield 16, 3) := by decide +kernel
theorem d_MD_nature_67 : decode c_MD_nature 67 = .ok (.iload_n 1, 1) := by decide +kernel
theorem d_MD_nature_68 : decode c_MD_nature 68 = .ok (.iaload, 1) := by decide +kernel
theorem d_MD_nature_69 : decode c_MD_nature 69 = .ok (.ifCond .lt 7, 3) := by decide +kernel
theorem d_MD_nature_72 : decode c_MD_nature 72 = .ok (.iconst 1, 1) := by decide +kernel
theorem d_MD_nature_73 : decode c_MD_nature 73 = .ok (.goto 4, 3) := by decide +kernel
theorem d_MD_nature_76 : decode c_MD_nature 76 = .ok (.iconst 0, 1) := by decide +kernel
theorem d_MD_nature_77 : decode c_MD_nature 77 = .ok (.invokevirtual 78, 3) := by decide +kernel
theorem d_MD_nature_80 : decode c_MD_nature 80 = .ok (.ifCond .ne 14, 3) := by decide +kernel
theorem d_MD_nature_83 : decode c_MD_nature 83 = .ok (.aload_n 0, 1) := by decide +kernel
theorem d_MD_nature_84 : decode c_MD_nature 84 = .ok (.iload_n 1, 1) := by decide +kernel
theorem d_MD_nature_85 : decode c_MD_nature 85 = .ok (.bipush 7, 2) := by decide +kernel
theorem d_MD_nature_87 : decode c_MD_nature 87 = .ok (.iload_n 2, 1) := by decide +kernel
theorem d_MD_nature_88 : decode c_MD_nature 88 = .ok (.iload_n 3, 1) := by decide +kernel
theorem d_MD_nature_89 : decode c_MD_nature 89 = .ok (.iload 4, 2) := by decide +kernel
theorem d_MD_nature_91 : decode c_MD_nature 91 = .ok (.invokevirtual 86, 3) := by decide +kernel
theorem d_MD_nature_94 : decode c_MD_nature 94 = .ok (.return_, 1) := by decide +kernel
theorem d_MD_isA_0 : decode c_MD_isA 0 = .ok (.iload_n 0, 1) := by decide +kernel
theorem d_MD_isA_1 : decode c_MD_isA 1 = .ok (.tableswitch 114 0 10 #[59, 66, 74, 74, 74, 82, 82, 90, 98, 98, 107], 59) := by decide +kernel
theorem d_MD_isA_60 : decode c_MD_isA 60 = .ok (.iload_n 1, 1) := by decide +kernel
theorem d_MD_isA_61 : decode c_MD_isA 61 = .ok (.iconst 0, 1) := by decide +kernel
theorem d_MD_isA_62 : decode c_MD_isA 62 = .ok (.iconst 1, 1) := by decide +kernel
theorem d_MD_isA_63 : decode c_MD_isA 63 = .ok (.invokestatic 67, 3) := by decide +kernel
theorem d_MD_isA_66 : decode c_MD_isA 66 = .ok (.ireturn, 1) := by decide +kernel
theorem d_MD_isA_67 : decode c_MD_isA 67 = .ok (.iload_n 1, 1) := by decide +kernel
theorem d_MD_isA_68 : decode c_MD_isA 68 = .ok (.iconst 0, 1) := by decide +kernel
theorem d_MD_isA_69 : decode c_MD_isA 69 = .ok (.ldc 62, 2) := by decide +kernel
theorem d_MD_isA_71 : decode c_MD_isA 71 = .ok (.invokestatic 67, 3) := by decide +kernel
theorem d_MD_isA_74 : decode c_MD_isA 74 = .ok (.ireturn, 1) := by decide +kernel
theorem d_MD_isA_75 : decode c_MD_isA 75 = .ok (.iload_n 1, 1) := by decide +kernel
theorem d_MD_isA_76 : decode c_MD_isA 76 = .ok (.iconst 1, 1) := by decide +kernel
theorem d_MD_isA_77 : decode c_MD_isA 77 = .ok (.bipush 20, 2) := by decide +kernel
theorem d_MD_isA_79 : decode c_MD_isA 79 = .ok (.invokestatic 67, 3) := by decide +kernel
theorem d_MD_isA_82 : decode c_MD_isA 82 = .ok (.ireturn, 1) := by decide +kernel
theorem d_MD_isA_83 : decode c_MD_isA 83 = .ok (.iload_n 1, 1) := by decide +kernel
theorem d_MD_isA_84 : decode c_MD_isA 84 = .ok (.iconst 0, 1) := by decide +kernel
theorem d_MD_isA_85 : decode c_MD_isA 85 = .ok (.bipush 7, 2) := by decide +kernel
theorem d_MD_isA_87 : decode c_MD_isA 87 = .ok (.invokestatic 67, 3) := by decide +kernel
theorem d_MD_isA_90 : decode c_MD_isA 90 = .ok (.ireturn, 1) := by decide +kernel
theorem d_MD_isA_91 : decode c_MD_isA 91 = .ok (.iload_n 1, 1) := by decide +kernel
theorem d_MD_isA_92 : decode c_MD_isA 92 = .ok (.iconst 1, 1) := by decide +kernel
theorem d_MD_isA_93 : decode c_MD_isA 93 = .ok (.bipush 40, 2) := by decide +kernel
theorem d_MD_isA_95 : decode c_MD_isA 95 = .ok (.invokestatic 67, 3) := by decide +kernel
theorem d_MD_isA_98 : decode c_MD_isA 98 = .ok (.ireturn, 1) := by decide +kernel
theorem d_MD_isA_99 : decode c_MD_isA 99 = .ok (.iload_n 1, 1) := by decide +kernel
theorem d_MD_isA_100 : decode c_MD_isA 100 = .ok (.iconst 0, 1) := by decide +kernel
theorem d_MD_isA_101 : decode c_MD_isA 101 = .ok (.sipush 1000, 3) := by decide +kernel
theorem d_MD_isA_104 : decode c_MD_isA 104 = .ok (.invokestatic 67, 3) := by decide +kernel
theorem d_MD_isA_107 : decode c_MD_isA 107 = .ok (.ireturn, 1) := by decide +kernel
theorem d_MD_isA_108 : decode c_MD_isA 108 = .ok (.iload_n 1, 1) := by decide +kernel
theorem d_MD_isA_109 : decode c_MD_isA 109 = .ok (.iconst 0, 1) := by decide +kernel
theorem d_MD_isA_110 : decode c_MD_isA 110 = .ok (.iconst 3, 1) := by decide +kernel
theorem d_MD_isA_111 : decode c_MD_isA 111 = .ok (.invokestatic 67, 3) := by decide +kernel
theorem d_MD_isA_114 : decode c_MD_isA 114 = .ok (.ireturn, 1) := by decide +kernel
theorem d_MD_isA_115 : decode c_MD_isA 115 = .ok (.iconst 0, 1) := by decide +kernel
theorem d_MD_isA_116 : decode c_MD_isA 116 = .ok (.ireturn, 1) := by decide +kernel
theorem d_MD_isTwo_0 : decode c_MD_isTwo 0 = .ok (.iload_n 0, 1) := by decide +kernel
theorem d_MD_isTwo_1 : decode c_MD_isTwo 1 = .ok (.iconst 5, 1) := by decide +kernel
theorem d_MD_isTwo_2 : decode c_MD_isTwo 2 = .ok (.if_icmp .eq 9, 3) := by decide +kernel
theorem d_MD_isTwo_5 : decode c_MD_isTwo 5 = .ok (.iload_n 0, 1) := by decide +kernel
theorem d_MD_isTwo_6 : decode c_MD_isTwo 6 = .ok (.bipush 6, 2) := by decide +kernel
theorem d_MD_isTwo_8 : decode c_MD_isTwo 8 = .ok (.if_icmp .ne 7, 3) := by decide +kernel
theorem d_MD_isTwo_11 : decode c_MD_isTwo 11 = .ok (.iconst 1, 1) := by decide +kernel
theorem d_MD_isTwo_12 : decode c_MD_isTwo 12 = .ok (.goto 4, 3) := by decide +kernel
theorem d_MD_isTwo_15 : decode c_MD_isTwo 15 = .ok (.iconst 0, 1) := by decide +kernel
theorem d_MD_isTwo_16 : decode c_MD_isTwo 16 = .ok (.ireturn, 1) := by decide +kernel
theorem d_MD_comes_0 : decode c_MD_comes 0 = .ok (.iconst 0, 1) := by decide +kernel
theorem d_MD_comes_1 : decode c_MD_comes 1 = .ok (.istore 5, 2) := by decide +kernel
theorem d_MD_comes_3 : decode c_MD_comes 3 = .ok (.iload 5, 2) := by decide +kernel
theorem d_MD_comes_5 : decode c_MD_comes 5 = .ok (.aload_n 0, 1) := by decide +kernel
theorem d_MD_comes_6 : decode c_MD_comes 6 = .ok (.getfield 94, 3) := by decide +kernel
theorem d_MD_comes_9 : decode c_MD_comes 9 = .ok (.if_icmp .ge 71, 3) := by decide +kernel
theorem d_MD_comes_12 : decode c_MD_comes 12 = .ok (.aload_n 0, 1) := by decide +kernel
theorem d_MD_comes_13 : decode c_MD_comes 13 = .ok (.getfield 19, 3) := by decide +kernel
theorem d_MD_comes_16 : decode c_MD_comes 16 = .ok (.iload 5, 2) := by decide +kernel
theorem d_MD_comes_18 : decode c_MD_comes 18 = .ok (.iaload, 1) := by decide +kernel
theorem d_MD_comes_19 : decode c_MD_comes 19 = .ok (.iload_n 1, 1) := by decide +kernel
theorem d_MD_comes_20 : decode c_MD_comes 20 = .ok (.if_icmp .ne 54, 3) := by decide +kernel
theorem d_MD_comes_23 : decode c_MD_comes 23 = .ok (.aload_n 0, 1) := by decide +kernel
theorem d_MD_comes_24 : decode c_MD_comes 24 = .ok (.getfield 22, 3) := by decide +kernel
theorem d_MD_comes_27 : decode c_MD_comes 27 = .ok (.iload 5, 2) := by decide +kernel
theorem d_MD_comes_29 : decode c_MD_comes 29 = .ok (.iaload, 1) := by decide +kernel
theorem d_MD_comes_30 : decode c_MD_comes 30 = .ok (.iload_n 2, 1) := by decide +kernel
theorem d_MD_comes_31 : decode c_MD_comes 31 = .ok (.if_icmp .ne 43, 3) := by decide +kernel
theorem d_MD_comes_34 : decode c_MD_comes 34 = .ok (.aload_n 0, 1) := by decide +kernel
theorem d_MD_comes_35 : decode c_MD_comes 35 = .ok (.getfield 50, 3) := by decide +kernel
theorem d_MD_comes_38 : decode c_MD_comes 38 = .ok (.iconst 2, 1) := by decide +kernel
theorem d_MD_comes_39 : decode c_MD_comes 39 = .ok (.aload_n 0, 1) := by decide +kernel
theorem d_MD_comes_40 : decode c_MD_comes 40 = .ok (.getfield 97, 3) := by decide +kernel
theorem d_MD_comes_43 : decode c_MD_comes 43 = .ok (.imul, 1) := by decide +kernel
theorem d_MD_comes_44 : decode c_MD_comes 44 = .ok (.iload 5, 2) := by decide +kernel
theorem d_MD_comes_46 : decode c_MD_comes 46 = .ok (.iastore, 1) := by decide +kernel
theorem d_MD_comes_47 : decode c_MD_comes 47 = .ok (.aload_n 0, 1) := by decide +kernel
theorem d_MD_comes_48 : decode c_MD_comes 48 = .ok (.getfield 50, 3) := by decide +kernel
theorem d_MD_comes_51 : decode c_MD_comes 51 = .ok (.iconst 2, 1) := by decide +kernel
theorem d_MD_comes_52 : decode c_MD_comes 52 = .ok (.aload_n 0, 1) := by decide +kernel
theorem d_MD_comes_53 : decode c_MD_comes 53 = .ok (.getfield 97, 3) := by decide +kernel
theorem d_MD_comes_56 : decode c_MD_comes 56 = .ok (.imul, 1) := by decide +kernel
theorem d_MD_comes_57 : decode c_MD_comes 57 = .ok (.iconst 1, 1) := by decide +kernel
theorem d_MD_comes_58 : decode c_MD_comes 58 = .ok (.iadd, 1) := by decide +kernel
theorem d_MD_comes_59 : decode c_MD_comes 59 = .ok (.aload_n 0, 1) := by decide +kernel
theorem d_MD_comes_60 : decode c_MD_comes 60 = .ok (.getfield 94, 3) := by decide +kernel
theorem d_MD_comes_63 : decode c_MD_comes 63 = .ok (.iastore, 1) := by decide +kernel
theorem d_MD_comes_64 : decode c_MD_comes 64 = .ok (.aload_n 0, 1) := by decide +kernel
theorem d_MD_comes_65 : decode c_MD_comes 65 = .ok (.dup, 1) := by decide +kernel
theorem d_MD_comes_66 : decode c_MD_comes 66 = .ok (.getfield 97, 3) := by decide +kernel
theorem d_MD_comes_69 : decode c_MD_comes 69 = .ok (.iconst 1, 1) := by decide +kernel
theorem d_MD_comes_70 : decode c_MD_comes 70 = .ok (.iadd, 1) := by decide +kernel
theorem d_MD_comes_71 : decode c_MD_comes 71 = .ok (.putfield 97, 3) := by decide +kernel
theorem d_MD_comes_74 : decode c_MD_comes 74 = .ok (.iinc 5 1, 3) := by decide +kernel
theorem d_MD_comes_77 : decode c_MD_comes 77 = .ok (.goto (-74), 3) := by decide +kernel
theorem d_MD_comes_80 : decode c_MD_comes 80 = .ok (.aload_n 0, 1) := by decide +kernel
theorem d_MD_comes_81 : decode c_MD_comes 81 = .ok (.getfield 19, 3) := by decide +kernel
theorem d_MD_comes_84 : decode c_MD_comes 84 = .ok (.aload_n 0, 1) := by decide +kernel
theorem d_MD_comes_85 : decode c_MD_comes 85 = .ok (.getfield 94, 3) := by decide +kernel
theorem d_MD_comes_88 : decode c_MD_comes 88 = .ok (.iload_n 1, 1) := by decide +kernel
theorem d_MD_comes_89 : decode c_MD_comes 89 = .ok (.iastore, 1) := by decide +kernel
theorem d_MD_comes_90 : decode c_MD_comes 90 = .ok (.aload_n 0, 1) := by decide +kernel
theorem d_MD_comes_91 : decode c_MD_comes 91 = .ok (.getfield 22, 3) := by decide +kernel
theorem d_MD_comes_94 : decode c_MD_comes 94 = .ok (.aload_n 0, 1) := by decide +kernel
theorem d_MD_comes_95 : decode c_MD_comes 95 = .ok (.getfield 94, 3) := by decide +kernel
theorem d_MD_comes_98 : decode c_MD_comes 98 = .ok (.iload_n 2, 1) := by decide +kernel
theorem d_MD_comes_99 : decode c_MD_comes 99 = .ok (.iastore, 1) := by decide +kernel
theorem d_MD_comes_100 : decode c_MD_comes 100 = .ok (.aload_n 0, 1) := by decide +kernel
theorem d_MD_comes_101 : decode c_MD_comes 101 = .ok (.getfield 25, 3) := by decide +kernel
theorem d_MD_comes_104 : decode c_MD_comes 104 = .ok (.aload_n 0, 1) := by decide +kernel
theorem d_MD_comes_105 : decode c_MD_comes 105 = .ok (.getfield 94, 3) := by decide +kernel
theorem d_MD_comes_108 : decode c_MD_comes 108 = .ok (.iload_n 3, 1) := by decide +kernel
theorem d_MD_comes_109 : decode c_MD_comes 109 = .ok (.iastore, 1) := by decide +kernel
theorem d_MD_comes_110 : decode c_MD_comes 110 = .ok (.aload_n 0, 1) := by decide +kernel
theorem d_MD_comes_111 : decode c_MD_comes 111 = .ok (.getfield 28, 3) := by decide +kernel
theorem d_MD_comes_114 : decode c_MD_comes 114 = .ok (.aload_n 0, 1) := by decide +kernel
theorem d_MD_comes_115 : decode c_MD_comes 115 = .ok (.getfield 94, 3) := by decide +kernel
theorem d_MD_comes_118 : decode c_MD_comes 118 = .ok (.iload 4, 2) := by decide +kernel
theorem d_MD_comes_120 : decode c_MD_comes 120 = .ok (.iastore, 1) := by decide +kernel
theorem d_MD_comes_121 : decode c_MD_comes 121 = .ok (.aload_n 0, 1) := by decide +kernel
theorem d_MD_comes_122 : decode c_MD_comes 122 = .ok (.getfield 31, 3) := by decide +kernel
theorem d_MD_comes_125 : decode c_MD_comes 125 = .ok (.aload_n 0, 1) := by decide +kernel
theorem d_MD_comes_126 : decode c_MD_comes 126 = .ok (.getfield 94, 3) := by decide +kernel
theorem d_MD_comes_129 : decode c_MD_comes 129 = .ok (.iconst 0, 1) := by decide +kernel
theorem d_MD_comes_130 : decode c_MD_comes 130 = .ok (.bastore, 1) := by decide +kernel
theorem d_MD_comes_131 : decode c_MD_comes 131 = .ok (.aload_n 0, 1) := by decide +kernel
theorem d_MD_comes_132 : decode c_MD_comes 132 = .ok (.dup, 1) := by decide +kernel
theorem d_MD_comes_133 : decode c_MD_comes 133 = .ok (.getfield 94, 3) := by decide +kernel
theorem d_MD_comes_136 : decode c_MD_comes 136 = .ok (.iconst 1, 1) := by decide +kernel
theorem d_MD_comes_137 : decode c_MD_comes 137 = .ok (.iadd, 1) := by decide +kernel
theorem d_MD_comes_138 : decode c_MD_comes 138 = .ok (.putfield 94, 3) := by decide +kernel
theorem d_MD_comes_141 : decode c_MD_comes 141 = .ok (.return_, 1) := by decide +kernel
theorem d_MD_rule_0 : decode c_MD_rule 0 = .ok (.iload_n 1, 1) := by decide +kernel
theorem d_MD_rule_1 : decode c_MD_rule 1 = .ok (.iconst 1, 1) := by decide +kernel
theorem d_MD_rule_2 : decode c_MD_rule 2 = .ok (.bipush 100, 2) := by decide +kernel
theorem d_MD_rule_4 : decode c_MD_rule 4 = .ok (.invokestatic 67, 3) := by decide +kernel
theorem d_MD_rule_7 : decode c_MD_rule 7 = .ok (.ifCond .eq 47, 3) := by decide +kernel
theorem d_MD_rule_10 : decode c_MD_rule 10 = .ok (.iload_n 2, 1) := by decide +kernel
theorem d_MD_rule_11 : decode c_MD_rule 11 = .ok (.iconst 0, 1) := by decide +kernel
theorem d_MD_rule_12 : decode c_MD_rule 12 = .ok (.bipush 10, 2) := by decide +kernel
theorem d_MD_rule_14 : decode c_MD_rule 14 = .ok (.invokestatic 67, 3) := by decide +kernel
theorem d_MD_rule_17 : decode c_MD_rule 17 = .ok (.ifCond .eq 37, 3) := by decide +kernel
theorem d_MD_rule_20 : decode c_MD_rule 20 = .ok (.iload_n 2, 1) := by decide +kernel
theorem d_MD_rule_21 : decode c_MD_rule 21 = .ok (.iload_n 3, 1) := by decide +kernel
theorem d_MD_rule_22 : decode c_MD_rule 22 = .ok (.invokestatic 100, 3) := by decide +kernel
theorem d_MD_rule_25 : decode c_MD_rule 25 = .ok (.ifCond .eq 29, 3) := by decide +kernel
theorem d_MD_rule_28 : decode c_MD_rule 28 = .ok (.iload 4, 2) := by decide +kernel
theorem d_MD_rule_30 : decode c_MD_rule 30 = .ok (.iconst 0, 1) := by decide +kernel
theorem d_MD_rule_31 : decode c_MD_rule 31 = .ok (.iload_n 2, 1) := by decide +kernel
theorem d_MD_rule_32 : decode c_MD_rule 32 = .ok (.invokestatic 104, 3) := by decide +kernel
theorem d_MD_rule_35 : decode c_MD_rule 35 = .ok (.ifCond .eq 8, 3) := by decide +kernel
theorem d_MD_rule_38 : decode c_MD_rule 38 = .ok (.bipush 7, 2) := by decide +kernel
theorem d_MD_rule_40 : decode c_MD_rule 40 = .ok (.goto 4, 3) := by decide +kernel
theorem d_MD_rule_43 : decode c_MD_rule 43 = .ok (.iconst 0, 1) := by decide +kernel
theorem d_MD_rule_44 : decode c_MD_rule 44 = .ok (.invokestatic 67, 3) := by decide +kernel
theorem d_MD_rule_47 : decode c_MD_rule 47 = .ok (.ifCond .eq 7, 3) := by decide +kernel
theorem d_MD_rule_50 : decode c_MD_rule 50 = .ok (.iconst 1, 1) := by decide +kernel
theorem d_MD_rule_51 : decode c_MD_rule 51 = .ok (.goto 4, 3) := by decide +kernel
theorem d_MD_rule_54 : decode c_MD_rule 54 = .ok (.iconst 0, 1) := by decide +kernel
theorem d_MD_rule_55 : decode c_MD_rule 55 = .ok (.istore 5, 2) := by decide +kernel
theorem d_MD_rule_57 : decode c_MD_rule 57 = .ok (.aload_n 0, 1) := by decide +kernel
theorem d_MD_rule_58 : decode c_MD_rule 58 = .ok (.iload 5, 2) := by decide +kernel
theorem d_MD_rule_60 : decode c_MD_rule 60 = .ok (.ifCond .ne 7, 3) := by decide +kernel
theorem d_MD_rule_63 : decode c_MD_rule 63 = .ok (.iconst 1, 1) := by decide +kernel
theorem d_MD_rule_64 : decode c_MD_rule 64 = .ok (.goto 4, 3) := by decide +kernel
theorem d_MD_rule_67 : decode c_MD_rule 67 = .ok (.iconst 0, 1) := by decide +kernel
theorem d_MD_rule_68 : decode c_MD_rule 68 = .ok (.aload_n 0, 1) := by decide +kernel
theorem d_MD_rule_69 : decode c_MD_rule 69 = .ok (.getfield 94, 3) := by decide +kernel
theorem d_MD_rule_72 : decode c_MD_rule 72 = .ok (.bipush 24, 2) := by decide +kernel
theorem d_MD_rule_74 : decode c_MD_rule 74 = .ok (.if_icmp .ne 7, 3) := by decide +kernel
theorem d_MD_rule_77 : decode c_MD_rule 77 = .ok (.iconst 1, 1) := by decide +kernel
theorem d_MD_rule_78 : decode c_MD_rule 78 = .ok (.goto 4, 3) := by decide +kernel
theorem d_MD_rule_81 : decode c_MD_rule 81 = .ok (.iconst 0, 1) := by decide +kernel
theorem d_MD_rule_82 : decode c_MD_rule 82 = .ok (.iconst 0, 1) := by decide +kernel
theorem d_MD_rule_83 : decode c_MD_rule 83 = .ok (.invokevirtual 78, 3) := by decide +kernel
theorem d_MD_rule_86 : decode c_MD_rule 86 = .ok (.ifCond .eq 5, 3) := by decide +kernel
theorem d_MD_rule_89 : decode c_MD_rule 89 = .ok (.iconst 0, 1) := by decide +kernel
theorem d_MD_rule_90 : decode c_MD_rule 90 = .ok (.ireturn, 1) := by decide +kernel
theorem d_MD_rule_91 : decode c_MD_rule 91 = .ok (.aload_n 0, 1) := by decide +kernel
theorem d_MD_rule_92 : decode c_MD_rule 92 = .ok (.iload_n 1, 1) := by decide +kernel
theorem d_MD_rule_93 : decode c_MD_rule 93 = .ok (.iload_n 2, 1) := by decide +kernel
theorem d_MD_rule_94 : decode c_MD_rule 94 = .ok (.iload_n 3, 1) := by decide +kernel
theorem d_MD_rule_95 : decode c_MD_rule 95 = .ok (.iload 4, 2) := by decide +kernel
theorem d_MD_rule_97 : decode c_MD_rule 97 = .ok (.invokevirtual 107, 3) := by decide +kernel
theorem d_MD_rule_100 : decode c_MD_rule 100 = .ok (.aload_n 0, 1) := by decide +kernel
theorem d_MD_rule_101 : decode c_MD_rule 101 = .ok (.getfield 94, 3) := by decide +kernel
theorem d_MD_rule_104 : decode c_MD_rule 104 = .ok (.iconst 1, 1) := by decide +kernel
theorem d_MD_rule_105 : decode c_MD_rule 105 = .ok (.isub, 1) := by decide +kernel
theorem d_MD_rule_106 : decode c_MD_rule 106 = .ok (.ireturn, 1) := by decide +kernel
theorem d_MD_sign_0 : decode c_MD_sign 0 = .ok (.aload_n 0, 1) := by decide +kernel
theorem d_MD_sign_1 : decode c_MD_sign 1 = .ok (.iconst 0, 1) := by decide +kernel
theorem d_MD_sign_2 : decode c_MD_sign 2 = .ok (.putfield 63, 3) := by decide +kernel
theorem d_MD_sign_5 : decode c_MD_sign 5 = .ok (.aload_n 0, 1) := by decide +kernel
theorem d_MD_sign_6 : decode c_MD_sign 6 = .ok (.getfield 111, 3) := by decide +kernel
theorem d_MD_sign_9 : decode c_MD_sign 9 = .ok (.sipush 400, 3) := by decide +kernel
theorem d_MD_sign_12 : decode c_MD_sign 12 = .ok (.if_icmp .ne 5, 3) := by decide +kernel
theorem d_MD_sign_15 : decode c_MD_sign 15 = .ok (.iconst (-1), 1) := by decide +kernel
theorem d_MD_sign_16 : decode c_MD_sign 16 = .ok (.ireturn, 1) := by decide +kernel
theorem d_MD_sign_17 : decode c_MD_sign 17 = .ok (.aload_n 0, 1) := by decide +kernel
theorem d_MD_sign_18 : decode c_MD_sign 18 = .ok (.getfield 56, 3) := by decide +kernel
theorem d_MD_sign_21 : decode c_MD_sign 21 = .ok (.aload_n 0, 1) := by decide +kernel
theorem d_MD_sign_22 : decode c_MD_sign 22 = .ok (.getfield 111, 3) := by decide +kernel
theorem d_MD_sign_25 : decode c_MD_sign 25 = .ok (.iload_n 1, 1) := by decide +kernel
theorem d_MD_sign_26 : decode c_MD_sign 26 = .ok (.sipush 255, 3) := by decide +kernel
theorem d_MD_sign_29 : decode c_MD_sign 29 = .ok (.iand, 1) := by decide +kernel
theorem d_MD_sign_30 : decode c_MD_sign 30 = .ok (.iastore, 1) := by decide +kernel
theorem d_MD_sign_31 : decode c_MD_sign 31 = .ok (.aload_n 0, 1) := by decide +kernel
theorem d_MD_sign_32 : decode c_MD_sign 32 = .ok (.dup, 1) := by decide +kernel
theorem d_MD_sign_33 : decode c_MD_sign 33 = .ok (.getfield 111, 3) := by decide +kernel
theorem d_MD_sign_36 : decode c_MD_sign 36 = .ok (.iconst 1, 1) := by decide +kernel
theorem d_MD_sign_37 : decode c_MD_sign 37 = .ok (.iadd, 1) := by decide +kernel
theorem d_MD_sign_38 : decode c_MD_sign 38 = .ok (.putfield 111, 3) := by decide +kernel
theorem d_MD_sign_41 : decode c_MD_sign 41 = .ok (.aload_n 0, 1) := by decide +kernel
theorem d_MD_sign_42 : decode c_MD_sign 42 = .ok (.getfield 111, 3) := by decide +kernel
theorem d_MD_sign_45 : decode c_MD_sign 45 = .ok (.ireturn, 1) := by decide +kernel
theorem d_MD_now_0 : decode c_MD_now 0 = .ok (.aload_n 0, 1) := by decide +kernel
theorem d_MD_now_1 : decode c_MD_now 1 = .ok (.getfield 114, 3) := by decide +kernel
theorem d_MD_now_4 : decode c_MD_now 4 = .ok (.aload_n 0, 1) := by decide +kernel
theorem d_MD_now_5 : decode c_MD_now 5 = .ok (.getfield 111, 3) := by decide +kernel
theorem d_MD_now_8 : decode c_MD_now 8 = .ok (.if_icmp .ge 15, 3) := by decide +kernel
theorem d_MD_now_11 : decode c_MD_now 11 = .ok (.aload_n 0, 1) := by decide +kernel
theorem d_MD_now_12 : decode c_MD_now 12 = .ok (.getfield 56, 3) := by decide +kernel
theorem d_MD_now_15 : decode c_MD_now 15 = .ok (.aload_n 0, 1) := by decide +kernel
theorem d_MD_now_16 : decode c_MD_now 16 = .ok (.getfield 114, 3) := by decide +kernel
theorem d_MD_now_19 : decode c_MD_now 19 = .ok (.iaload, 1) := by decide +kernel
theorem d_MD_now_20 : decode c_MD_now 20 = .ok (.goto 4, 3) := by decide +kernel
theorem d_MD_now_23 : decode c_MD_now 23 = .ok (.iconst (-1), 1) := by decide +kernel
theorem d_MD_now_24 : decode c_MD_now 24 = .ok (.ireturn, 1) := by decide +kernel
theorem d_MD_fault_0 : decode c_MD_fault 0 = .ok (.aload_n 0, 1) := by decide +kernel
theorem d_MD_fault_1 : decode c_MD_fault 1 = .ok (.aload_n 0, 1) := by decide +kernel
theorem d_MD_fault_2 : decode c_MD_fault 2 = .ok (.getfield 117, 3) := by decide +kernel
theorem d_MD_fault_5 : decode c_MD_fault 5 = .ok (.ifCond .ge 7, 3) := by decide +kernel
theorem d_MD_fault_8 : decode c_MD_fault 8 = .ok (.iload_n 1, 1) := by decide +kernel
theorem d_MD_fault_9 : decode c_MD_fault 9 = .ok (.goto 7, 3) := by decide +kernel
theorem d_MD_fault_12 : decode c_MD_fault 12 = .ok (.aload_n 0, 1) := by decide +kernel
theorem d_MD_fault_13 : decode c_MD_fault 13 = .ok (.getfield 117, 3) := by decide +kernel
theorem d_MD_fault_16 : decode c_MD_fault 16 = .ok (.putfield 117, 3) := by decide +kernel
theorem d_MD_fault_19 : decode c_MD_fault 19 = .ok (.return_, 1) := by decide +kernel
theorem d_MD_pass_0 : decode c_MD_pass 0 = .ok (.aload_n 0, 1) := by decide +kernel
theorem d_MD_pass_1 : decode c_MD_pass 1 = .ok (.invokevirtual 120, 3) := by decide +kernel
theorem d_MD_pass_4 : decode c_MD_pass 4 = .ok (.iload_n 1, 1) := by decide +kernel
theorem d_MD_pass_5 : decode c_MD_pass 5 = .ok (.if_icmp .eq 11, 3) := by decide +kernel
theorem d_MD_pass_8 : decode c_MD_pass 8 = .ok (.aload_n 0, 1) := by decide +kernel
theorem d_MD_pass_9 : decode c_MD_pass 9 = .ok (.aload_n 0, 1) := by decide +kernel
theorem d_MD_pass_10 : decode c_MD_pass 10 = .ok (.getfield 114, 3) := by decide +kernel
theorem d_MD_pass_13 : decode c_MD_pass 13 = .ok (.invokevirtual 124, 3) := by decide +kernel
theorem d_MD_pass_16 : decode c_MD_pass 16 = .ok (.aload_n 0, 1) := by decide +kernel
theorem d_MD_pass_17 : decode c_MD_pass 17 = .ok (.dup, 1) := by decide +kernel
theorem d_MD_pass_18 : decode c_MD_pass 18 = .ok (.getfield 114, 3) := by decide +kernel
theorem d_MD_pass_21 : decode c_MD_pass 21 = .ok (.iconst 1, 1) := by decide +kernel
theorem d_MD_pass_22 : decode c_MD_pass 22 = .ok (.iadd, 1) := by decide +kernel
theorem d_MD_pass_23 : decode c_MD_pass 23 = .ok (.putfield 114, 3) := by decide +kernel
theorem d_MD_pass_26 : decode c_MD_pass 26 = .ok (.return_, 1) := by decide +kernel
theorem d_MD_isDigit_0 : decode c_MD_isDigit 0 = .ok (.aload_n 0, 1) := by decide +kernel
theorem d_MD_isDigit_1 : decode c_MD_isDigit 1 = .ok (.invokevirtual 120, 3) := by decide +kernel
theorem d_MD_isDigit_4 : decode c_MD_isDigit 4 = .ok (.bipush 48, 2) := by decide +kernel
theorem d_MD_isDigit_6 : decode c_MD_isDigit 6 = .ok (.bipush 57, 2) := by decide +kernel
theorem d_MD_isDigit_8 : decode c_MD_isDigit 8 = .ok (.invokestatic 67, 3) := by decide +kernel
theorem d_MD_isDigit_11 : decode c_MD_isDigit 11 = .ok (.ireturn, 1) := by decide +kernel
theorem d_MD_digits_0 : decode c_MD_digits 0 = .ok (.aload_n 0, 1) := by decide +kernel
theorem d_MD_digits_1 : decode c_MD_digits 1 = .ok (.getfield 114, 3) := by decide +kernel
theorem d_MD_digits_4 : decode c_MD_digits 4 = .ok (.istore_n 1, 1) := by decide +kernel
theorem d_MD_digits_5 : decode c_MD_digits 5 = .ok (.aload_n 0, 1) := by decide +kernel
theorem d_MD_digits_6 : decode c_MD_digits 6 = .ok (.iconst 0, 1) := by decide +kernel
theorem d_MD_digits_7 : decode c_MD_digits 7 = .ok (.putfield 128, 3) := by decide +kernel
theorem d_MD_digits_10 : decode c_MD_digits 10 = .ok (.aload_n 0, 1) := by decide +kernel
theorem d_MD_digits_11 : decode c_MD_digits 11 = .ok (.invokevirtual 131, 3) := by decide +kernel
theorem d_MD_digits_14 : decode c_MD_digits 14 = .ok (.ifCond .ne 11, 3) := by decide +kernel
theorem d_MD_digits_17 : decode c_MD_digits 17 = .ok (.aload_n 0, 1) := by decide +kernel
theorem d_MD_digits_18 : decode c_MD_digits 18 = .ok (.aload_n 0, 1) := by decide +kernel
theorem d_MD_digits_19 : decode c_MD_digits 19 = .ok (.getfield 114, 3) := by decide +kernel
theorem d_MD_digits_22 : decode c_MD_digits 22 = .ok (.invokevirtual 124, 3) := by decide +kernel
theorem d_MD_digits_25 : decode c_MD_digits 25 = .ok (.aload_n 0, 1) := by decide +kernel
theorem d_MD_digits_26 : decode c_MD_digits 26 = .ok (.invokevirtual 131, 3) := by decide +kernel
theorem d_MD_digits_29 : decode c_MD_digits 29 = .ok (.ifCond .eq 76, 3) := by decide +kernel
theorem d_MD_digits_32 : decode c_MD_digits 32 = .ok (.aload_n 0, 1) := by decide +kernel
theorem d_MD_digits_33 : decode c_MD_digits 33 = .ok (.getfield 117, 3) := by decide +kernel
theorem d_MD_digits_36 : decode c_MD_digits 36 = .ok (.ifCond .ge 69, 3) := by decide +kernel
theorem d_MD_digits_39 : decode c_MD_digits 39 = .ok (.aload_n 0, 1) := by decide +kernel
theorem d_MD_digits_40 : decode c_MD_digits 40 = .ok (.getfield 114, 3) := by decide +kernel
theorem d_MD_digits_43 : decode c_MD_digits 43 = .ok (.iload_n 1, 1) := by decide +kernel
theorem d_MD_digits_44 : decode c_MD_digits 44 = .ok (.if_icmp .le 10, 3) := by decide +kernel
theorem d_MD_digits_47 : decode c_MD_digits 47 = .ok (.aload_n 0, 1) := by decide +kernel
theorem d_MD_digits_48 : decode c_MD_digits 48 = .ok (.getfield 128, 3) := by decide +kernel
theorem d_MD_digits_51 : decode c_MD_digits 51 = .ok (.ifCond .eq 14, 3) := by decide +kernel
theorem d_MD_digits_54 : decode c_MD_digits 54 = .ok (.aload_n 0, 1) := by decide +kernel
theorem d_MD_digits_55 : decode c_MD_digits 55 = .ok (.getfield 114, 3) := by decide +kernel
theorem d_MD_digits_58 : decode c_MD_digits 58 = .ok (.iload_n 1, 1) := by decide +kernel
theorem d_MD_digits_59 : decode c_MD_digits 59 = .ok (.bipush 6, 2) := by decide +kernel
theorem d_MD_digits_61 : decode c_MD_digits 61 = .ok (.iadd, 1) := by decide +kernel
theorem d_MD_digits_62 : decode c_MD_digits 62 = .ok (.if_icmp .ne 11, 3) := by decide +kernel
theorem d_MD_digits_65 : decode c_MD_digits 65 = .ok (.aload_n 0, 1) := by decide +kernel
theorem d_MD_digits_66 : decode c_MD_digits 66 = .ok (.aload_n 0, 1) := by decide +kernel
theorem d_MD_digits_67 : decode c_MD_digits 67 = .ok (.getfield 114, 3) := by decide +kernel
theorem d_MD_digits_70 : decode c_MD_digits 70 = .ok (.invokevirtual 124, 3) := by decide +kernel
theorem d_MD_digits_73 : decode c_MD_digits 73 = .ok (.aload_n 0, 1) := by decide +kernel
theorem d_MD_digits_74 : decode c_MD_digits 74 = .ok (.bipush 10, 2) := by decide +kernel
theorem d_MD_digits_76 : decode c_MD_digits 76 = .ok (.aload_n 0, 1) := by decide +kernel
theorem d_MD_digits_77 : decode c_MD_digits 77 = .ok (.getfield 128, 3) := by decide +kernel
theorem d_MD_digits_80 : decode c_MD_digits 80 = .ok (.imul, 1) := by decide +kernel
theorem d_MD_digits_81 : decode c_MD_digits 81 = .ok (.aload_n 0, 1) := by decide +kernel
theorem d_MD_digits_82 : decode c_MD_digits 82 = .ok (.invokevirtual 120, 3) := by decide +kernel
theorem d_MD_digits_85 : decode c_MD_digits 85 = .ok (.iadd, 1) := by decide +kernel
theorem d_MD_digits_86 : decode c_MD_digits 86 = .ok (.bipush 48, 2) := by decide +kernel
theorem d_MD_digits_88 : decode c_MD_digits 88 = .ok (.isub, 1) := by decide +kernel
theorem d_MD_digits_89 : decode c_MD_digits 89 = .ok (.putfield 128, 3) := by decide +kernel
theorem d_MD_digits_92 : decode c_MD_digits 92 = .ok (.aload_n 0, 1) := by decide +kernel
theorem d_MD_digits_93 : decode c_MD_digits 93 = .ok (.dup, 1) := by decide +kernel
theorem d_MD_digits_94 : decode c_MD_digits 94 = .ok (.getfield 114, 3) := by decide +kernel
theorem d_MD_digits_97 : decode c_MD_digits 97 = .ok (.iconst 1, 1) := by decide +kernel
theorem d_MD_digits_98 : decode c_MD_digits 98 = .ok (.iadd, 1) := by decide +kernel
theorem d_MD_digits_99 : decode c_MD_digits 99 = .ok (.putfield 114, 3) := by decide +kernel
theorem d_MD_digits_102 : decode c_MD_digits 102 = .ok (.goto (-77), 3) := by decide +kernel
theorem d_MD_digits_105 : decode c_MD_digits 105 = .ok (.iload_n 1, 1) := by decide +kernel
theorem d_MD_digits_106 : decode c_MD_digits 106 = .ok (.ireturn, 1) := by decide +kernel
theorem d_MD_match_0 : decode c_MD_match 0 = .ok (.iconst 0, 1) := by decide +kernel
theorem d_MD_match_1 : decode c_MD_match 1 = .ok (.istore_n 3, 1) := by decide +kernel
theorem d_MD_match_2 : decode c_MD_match 2 = .ok (.iload_n 3, 1) := by decide +kernel
theorem d_MD_match_3 : decode c_MD_match 3 = .ok (.bipush 8, 2) := by decide +kernel
theorem d_MD_match_5 : decode c_MD_match 5 = .ok (.if_icmp .ge 55, 3) := by decide +kernel
theorem d_MD_match_8 : decode c_MD_match 8 = .ok (.aload_n 0, 1) := by decide +kernel
theorem d_MD_match_9 : decode c_MD_match 9 = .ok (.getfield 59, 3) := by decide +kernel
theorem d_MD_match_12 : decode c_MD_match 12 = .ok (.bipush 8, 2) := by decide +kernel
theorem d_MD_match_14 : decode c_MD_match 14 = .ok (.iload_n 1, 1) := by decide +kernel
theorem d_MD_match_15 : decode c_MD_match 15 = .ok (.imul, 1) := by decide +kernel
theorem d_MD_match_16 : decode c_MD_match 16 = .ok (.iload_n 3, 1) := by decide +kernel
theorem d_MD_match_17 : decode c_MD_match 17 = .ok (.iadd, 1) := by decide +kernel
theorem d_MD_match_18 : decode c_MD_match 18 = .ok (.iaload, 1) := by decide +kernel
theorem d_MD_match_19 : decode c_MD_match 19 = .ok (.ifCond .eq 41, 3) := by decide +kernel
theorem d_MD_match_22 : decode c_MD_match 22 = .ok (.iload_n 2, 1) := by decide +kernel
theorem d_MD_match_23 : decode c_MD_match 23 = .ok (.iload_n 3, 1) := by decide +kernel
theorem d_MD_match_24 : decode c_MD_match 24 = .ok (.iadd, 1) := by decide +kernel
theorem d_MD_match_25 : decode c_MD_match 25 = .ok (.aload_n 0, 1) := by decide +kernel
theorem d_MD_match_26 : decode c_MD_match 26 = .ok (.getfield 111, 3) := by decide +kernel
theorem d_MD_match_29 : decode c_MD_match 29 = .ok (.if_icmp .ge 31, 3) := by decide +kernel
theorem d_MD_match_32 : decode c_MD_match 32 = .ok (.aload_n 0, 1) := by decide +kernel
theorem d_MD_match_33 : decode c_MD_match 33 = .ok (.getfield 56, 3) := by decide +kernel
theorem d_MD_match_36 : decode c_MD_match 36 = .ok (.iload_n 2, 1) := by decide +kernel
theorem d_MD_match_37 : decode c_MD_match 37 = .ok (.iload_n 3, 1) := by decide +kernel
theorem d_MD_match_38 : decode c_MD_match 38 = .ok (.iadd, 1) := by decide +kernel
theorem d_MD_match_39 : decode c_MD_match 39 = .ok (.iaload, 1) := by decide +kernel
theorem d_MD_match_40 : decode c_MD_match 40 = .ok (.aload_n 0, 1) := by decide +kernel
theorem d_MD_match_41 : decode c_MD_match 41 = .ok (.getfield 59, 3) := by decide +kernel
theorem d_MD_match_44 : decode c_MD_match 44 = .ok (.bipush 8, 2) := by decide +kernel
theorem d_MD_match_46 : decode c_MD_match 46 = .ok (.iload_n 1, 1) := by decide +kernel
theorem d_MD_match_47 : decode c_MD_match 47 = .ok (.imul, 1) := by decide +kernel
theorem d_MD_match_48 : decode c_MD_match 48 = .ok (.iload_n 3, 1) := by decide +kernel
theorem d_MD_match_49 : decode c_MD_match 49 = .ok (.iadd, 1) := by decide +kernel
theorem d_MD_match_50 : decode c_MD_match 50 = .ok (.iaload, 1) := by decide +kernel
theorem d_MD_match_51 : decode c_MD_match 51 = .ok (.if_icmp .ne 9, 3) := by decide +kernel
theorem d_MD_match_54 : decode c_MD_match 54 = .ok (.iinc 3 1, 3) := by decide +kernel
theorem d_MD_match_57 : decode c_MD_match 57 = .ok (.goto (-55), 3) := by decide +kernel
theorem d_MD_match_60 : decode c_MD_match 60 = .ok (.iload_n 3, 1) := by decide +kernel
theorem d_MD_match_61 : decode c_MD_match 61 = .ok (.ireturn, 1) := by decide +kernel
theorem d_MD_lengthOf_0 : decode c_MD_lengthOf 0 = .ok (.iconst 0, 1) := by decide +kernel
theorem d_MD_lengthOf_1 : decode c_MD_lengthOf 1 = .ok (.istore_n 2, 1) := by decide +kernel
theorem d_MD_lengthOf_2 : decode c_MD_lengthOf 2 = .ok (.aload_n 0, 1) := by decide +kernel
theorem d_MD_lengthOf_3 : decode c_MD_lengthOf 3 = .ok (.getfield 59, 3) := by decide +kernel
theorem d_MD_lengthOf_6 : decode c_MD_lengthOf 6 = .ok (.bipush 8, 2) := by decide +kernel
theorem d_MD_lengthOf_8 : decode c_MD_lengthOf 8 = .ok (.iload_n 1, 1) := by decide +kernel
theorem d_MD_lengthOf_9 : decode c_MD_lengthOf 9 = .ok (.imul, 1) := by decide +kernel
theorem d_MD_lengthOf_10 : decode c_MD_lengthOf 10 = .ok (.iload_n 2, 1) := by decide +kernel
theorem d_MD_lengthOf_11 : decode c_MD_lengthOf 11 = .ok (.iadd, 1) := by decide +kernel
theorem d_MD_lengthOf_12 : decode c_MD_lengthOf 12 = .ok (.iaload, 1) := by decide +kernel
theorem d_MD_lengthOf_13 : decode c_MD_lengthOf 13 = .ok (.ifCond .eq 9, 3) := by decide +kernel
theorem d_MD_lengthOf_16 : decode c_MD_lengthOf 16 = .ok (.iinc 2 1, 3) := by decide +kernel
theorem d_MD_lengthOf_19 : decode c_MD_lengthOf 19 = .ok (.goto (-17), 3) := by decide +kernel
theorem d_MD_lengthOf_22 : decode c_MD_lengthOf 22 = .ok (.iload_n 2, 1) := by decide +kernel
theorem d_MD_lengthOf_23 : decode c_MD_lengthOf 23 = .ok (.ireturn, 1) := by decide +kernel
theorem d_MD_kind_0 : decode c_MD_kind 0 = .ok (.iconst 0, 1) := by decide +kernel
theorem d_MD_kind_1 : decode c_MD_kind 1 = .ok (.istore_n 1, 1) := by decide +kernel
theorem d_MD_kind_2 : decode c_MD_kind 2 = .ok (.iconst (-1), 1) := by decide +kernel
theorem d_MD_kind_3 : decode c_MD_kind 3 = .ok (.istore_n 2, 1) := by decide +kernel
theorem d_MD_kind_4 : decode c_MD_kind 4 = .ok (.iconst 0, 1) := by decide +kernel
theorem d_MD_kind_5 : decode c_MD_kind 5 = .ok (.istore_n 3, 1) := by decide +kernel
theorem d_MD_kind_6 : decode c_MD_kind 6 = .ok (.iload_n 3, 1) := by decide +kernel
theorem d_MD_kind_7 : decode c_MD_kind 7 = .ok (.bipush 11, 2) := by decide +kernel
theorem d_MD_kind_9 : decode c_MD_kind 9 = .ok (.if_icmp .ge 92, 3) := by decide +kernel
theorem d_MD_kind_12 : decode c_MD_kind 12 = .ok (.aload_n 0, 1) := by decide +kernel
theorem d_MD_kind_13 : decode c_MD_kind 13 = .ok (.iload_n 3, 1) := by decide +kernel
theorem d_MD_kind_14 : decode c_MD_kind 14 = .ok (.aload_n 0, 1) := by decide +kernel
theorem d_MD_kind_15 : decode c_MD_kind 15 = .ok (.getfield 114, 3) := by decide +kernel
theorem d_MD_kind_18 : decode c_MD_kind 18 = .ok (.invokevirtual 135, 3) := by decide +kernel
theorem d_MD_kind_21 : decode c_MD_kind 21 = .ok (.istore 4, 2) := by decide +kernel
theorem d_MD_kind_23 : decode c_MD_kind 23 = .ok (.iload 4, 2) := by decide +kernel
theorem d_MD_kind_25 : decode c_MD_kind 25 = .ok (.aload_n 0, 1) := by decide +kernel
theorem d_MD_kind_26 : decode c_MD_kind 26 = .ok (.iload_n 3, 1) := by decide +kernel
theorem d_MD_kind_27 : decode c_MD_kind 27 = .ok (.invokevirtual 139, 3) := by decide +kernel
theorem d_MD_kind_30 : decode c_MD_kind 30 = .ok (.if_icmp .ne 38, 3) := by decide +kernel
theorem d_MD_kind_33 : decode c_MD_kind 33 = .ok (.aload_n 0, 1) := by decide +kernel
theorem d_MD_kind_34 : decode c_MD_kind 34 = .ok (.getfield 114, 3) := by decide +kernel
theorem d_MD_kind_37 : decode c_MD_kind 37 = .ok (.iload 4, 2) := by decide +kernel
theorem d_MD_kind_39 : decode c_MD_kind 39 = .ok (.iadd, 1) := by decide +kernel
theorem d_MD_kind_40 : decode c_MD_kind 40 = .ok (.aload_n 0, 1) := by decide +kernel
theorem d_MD_kind_41 : decode c_MD_kind 41 = .ok (.getfield 111, 3) := by decide +kernel
theorem d_MD_kind_44 : decode c_MD_kind 44 = .ok (.if_icmp .ge 24, 3) := by decide +kernel
theorem d_MD_kind_47 : decode c_MD_kind 47 = .ok (.aload_n 0, 1) := by decide +kernel
theorem d_MD_kind_48 : decode c_MD_kind 48 = .ok (.getfield 56, 3) := by decide +kernel
theorem d_MD_kind_51 : decode c_MD_kind 51 = .ok (.aload_n 0, 1) := by decide +kernel
theorem d_MD_kind_52 : decode c_MD_kind 52 = .ok (.getfield 114, 3) := by decide +kernel
theorem d_MD_kind_55 : decode c_MD_kind 55 = .ok (.iload 4, 2) := by decide +kernel
theorem d_MD_kind_57 : decode c_MD_kind 57 = .ok (.iadd, 1) := by decide +kernel
theorem d_MD_kind_58 : decode c_MD_kind 58 = .ok (.iaload, 1) := by decide +kernel
theorem d_MD_kind_59 : decode c_MD_kind 59 = .ok (.bipush 32, 2) := by decide +kernel
theorem d_MD_kind_61 : decode c_MD_kind 61 = .ok (.if_icmp .ne 7, 3) := by decide +kernel
theorem d_MD_kind_64 : decode c_MD_kind 64 = .ok (.iconst 1, 1) := by decide +kernel
theorem d_MD_kind_65 : decode c_MD_kind 65 = .ok (.goto 4, 3) := by decide +kernel
theorem d_MD_kind_68 : decode c_MD_kind 68 = .ok (.iconst 0, 1) := by decide +kernel
theorem d_MD_kind_69 : decode c_MD_kind 69 = .ok (.istore 5, 2) := by decide +kernel
theorem d_MD_kind_71 : decode c_MD_kind 71 = .ok (.iload 5, 2) := by decide +kernel
theorem d_MD_kind_73 : decode c_MD_kind 73 = .ok (.ifCond .eq 7, 3) := by decide +kernel
theorem d_MD_kind_76 : decode c_MD_kind 76 = .ok (.iload_n 3, 1) := by decide +kernel
theorem d_MD_kind_77 : decode c_MD_kind 77 = .ok (.goto 4, 3) := by decide +kernel
theorem d_MD_kind_80 : decode c_MD_kind 80 = .ok (.iload_n 2, 1) := by decide +kernel
theorem d_MD_kind_81 : decode c_MD_kind 81 = .ok (.istore_n 2, 1) := by decide +kernel
theorem d_MD_kind_82 : decode c_MD_kind 82 = .ok (.iload 4, 2) := by decide +kernel
theorem d_MD_kind_84 : decode c_MD_kind 84 = .ok (.iload_n 1, 1) := by decide +kernel
theorem d_MD_kind_85 : decode c_MD_kind 85 = .ok (.if_icmp .le 8, 3) := by decide +kernel
theorem d_MD_kind_88 : decode c_MD_kind 88 = .ok (.iload 4, 2) := by decide +kernel
theorem d_MD_kind_90 : decode c_MD_kind 90 = .ok (.goto 4, 3) := by decide +kernel
theorem d_MD_kind_93 : decode c_MD_kind 93 = .ok (.iload_n 1, 1) := by decide +kernel
theorem d_MD_kind_94 : decode c_MD_kind 94 = .ok (.istore_n 1, 1) := by decide +kernel
theorem d_MD_kind_95 : decode c_MD_kind 95 = .ok (.iinc 3 1, 3) := by decide +kernel
theorem d_MD_kind_98 : decode c_MD_kind 98 = .ok (.goto (-92), 3) := by decide +kernel
theorem d_MD_kind_101 : decode c_MD_kind 101 = .ok (.iload_n 2, 1) := by decide +kernel
theorem d_MD_kind_102 : decode c_MD_kind 102 = .ok (.ifCond .ge 15, 3) := by decide +kernel
theorem d_MD_kind_105 : decode c_MD_kind 105 = .ok (.aload_n 0, 1) := by decide +kernel
theorem d_MD_kind_106 : decode c_MD_kind 106 = .ok (.aload_n 0, 1) := by decide +kernel
theorem d_MD_kind_107 : decode c_MD_kind 107 = .ok (.getfield 114, 3) := by decide +kernel
theorem d_MD_kind_110 : decode c_MD_kind 110 = .ok (.iload_n 1, 1) := by decide +kernel
theorem d_MD_kind_111 : decode c_MD_kind 111 = .ok (.iadd, 1) := by decide +kernel
theorem d_MD_kind_112 : decode c_MD_kind 112 = .ok (.invokevirtual 124, 3) := by decide +kernel
theorem d_MD_kind_115 : decode c_MD_kind 115 = .ok (.iconst 0, 1) := by decide +kernel
theorem d_MD_kind_116 : decode c_MD_kind 116 = .ok (.ireturn, 1) := by decide +kernel
theorem d_MD_kind_117 : decode c_MD_kind 117 = .ok (.aload_n 0, 1) := by decide +kernel
theorem d_MD_kind_118 : decode c_MD_kind 118 = .ok (.dup, 1) := by decide +kernel
theorem d_MD_kind_119 : decode c_MD_kind 119 = .ok (.getfield 114, 3) := by decide +kernel
theorem d_MD_kind_122 : decode c_MD_kind 122 = .ok (.aload_n 0, 1) := by decide +kernel
theorem d_MD_kind_123 : decode c_MD_kind 123 = .ok (.iload_n 2, 1) := by decide +kernel
theorem d_MD_kind_124 : decode c_MD_kind 124 = .ok (.invokevirtual 139, 3) := by decide +kernel
theorem d_MD_kind_127 : decode c_MD_kind 127 = .ok (.iadd, 1) := by decide +kernel
theorem d_MD_kind_128 : decode c_MD_kind 128 = .ok (.putfield 114, 3) := by decide +kernel
theorem d_MD_kind_131 : decode c_MD_kind 131 = .ok (.iload_n 2, 1) := by decide +kernel
theorem d_MD_kind_132 : decode c_MD_kind 132 = .ok (.ireturn, 1) := by decide +kernel
theorem d_MD_line_0 : decode c_MD_line 0 = .ok (.aload_n 0, 1) := by decide +kernel
theorem d_MD_line_1 : decode c_MD_line 1 = .ok (.invokevirtual 143, 3) := by decide +kernel
theorem d_MD_line_4 : decode c_MD_line 4 = .ok (.istore_n 2, 1) := by decide +kernel
theorem d_MD_line_5 : decode c_MD_line 5 = .ok (.aload_n 0, 1) := by decide +kernel
theorem d_MD_line_6 : decode c_MD_line 6 = .ok (.getfield 128, 3) := by decide +kernel
theorem d_MD_line_9 : decode c_MD_line 9 = .ok (.istore_n 3, 1) := by decide +kernel
theorem d_MD_line_10 : decode c_MD_line 10 = .ok (.aload_n 0, 1) := by decide +kernel
theorem d_MD_line_11 : decode c_MD_line 11 = .ok (.getfield 117, 3) := by decide +kernel
theorem d_MD_line_14 : decode c_MD_line 14 = .ok (.ifCond .ge 18, 3) := by decide +kernel
theorem d_MD_line_17 : decode c_MD_line 17 = .ok (.iload_n 3, 1) := by decide +kernel
theorem d_MD_line_18 : decode c_MD_line 18 = .ok (.iconst 1, 1) := by decide +kernel
theorem d_MD_line_19 : decode c_MD_line 19 = .ok (.bipush 100, 2) := by decide +kernel
theorem d_MD_line_21 : decode c_MD_line 21 = .ok (.invokestatic 67, 3) := by decide +kernel
theorem d_MD_line_24 : decode c_MD_line 24 = .ok (.ifCond .ne 8, 3) := by decide +kernel
theorem d_MD_line_27 : decode c_MD_line 27 = .ok (.aload_n 0, 1) := by decide +kernel
theorem d_MD_line_28 : decode c_MD_line 28 = .ok (.iload_n 2, 1) := by decide +kernel
theorem d_MD_line_29 : decode c_MD_line 29 = .ok (.invokevirtual 124, 3) := by decide +kernel
theorem d_MD_line_32 : decode c_MD_line 32 = .ok (.aload_n 0, 1) := by decide +kernel
theorem d_MD_line_33 : decode c_MD_line 33 = .ok (.getfield 117, 3) := by decide +kernel
theorem d_MD_line_36 : decode c_MD_line 36 = .ok (.ifCond .ge 9, 3) := by decide +kernel
theorem d_MD_line_39 : decode c_MD_line 39 = .ok (.aload_n 0, 1) := by decide +kernel
theorem d_MD_line_40 : decode c_MD_line 40 = .ok (.bipush 32, 2) := by decide +kernel
theorem d_MD_line_42 : decode c_MD_line 42 = .ok (.invokevirtual 146, 3) := by decide +kernel
theorem d_MD_line_45 : decode c_MD_line 45 = .ok (.aload_n 0, 1) := by decide +kernel
theorem d_MD_line_46 : decode c_MD_line 46 = .ok (.getfield 117, 3) := by decide +kernel
theorem d_MD_line_49 : decode c_MD_line 49 = .ok (.ifCond .ge 10, 3) := by decide +kernel
theorem d_MD_line_52 : decode c_MD_line 52 = .ok (.aload_n 0, 1) := by decide +kernel
theorem d_MD_line_53 : decode c_MD_line 53 = .ok (.invokevirtual 149, 3) := by decide +kernel
theorem d_MD_line_56 : decode c_MD_line 56 = .ok (.goto 4, 3) := by decide +kernel
theorem d_MD_line_59 : decode c_MD_line 59 = .ok (.iconst 0, 1) := by decide +kernel
theorem d_MD_line_60 : decode c_MD_line 60 = .ok (.istore 4, 2) := by decide +kernel
theorem d_MD_line_62 : decode c_MD_line 62 = .ok (.aload_n 0, 1) := by decide +kernel
theorem d_MD_line_63 : decode c_MD_line 63 = .ok (.getfield 117, 3) := by decide +kernel
theorem d_MD_line_66 : decode c_MD_line 66 = .ok (.ifCond .lt 4, 3) := by decide +kernel
theorem d_MD_line_69 : decode c_MD_line 69 = .ok (.return_, 1) := by decide +kernel
theorem d_MD_line_70 : decode c_MD_line 70 = .ok (.aload_n 0, 1) := by decide +kernel
theorem d_MD_line_71 : decode c_MD_line 71 = .ok (.bipush 32, 2) := by decide +kernel
theorem d_MD_line_73 : decode c_MD_line 73 = .ok (.invokevirtual 146, 3) := by decide +kernel
theorem d_MD_line_76 : decode c_MD_line 76 = .ok (.aload_n 0, 1) := by decide +kernel
theorem d_MD_line_77 : decode c_MD_line 77 = .ok (.invokevirtual 143, 3) := by decide +kernel
theorem d_MD_line_80 : decode c_MD_line 80 = .ok (.istore_n 2, 1) := by decide +kernel
theorem d_MD_line_81 : decode c_MD_line 81 = .ok (.aload_n 0, 1) := by decide +kernel
theorem d_MD_line_82 : decode c_MD_line 82 = .ok (.getfield 128, 3) := by decide +kernel
theorem d_MD_line_85 : decode c_MD_line 85 = .ok (.istore 5, 2) := by decide +kernel
theorem d_MD_line_87 : decode c_MD_line 87 = .ok (.aload_n 0, 1) := by decide +kernel
theorem d_MD_line_88 : decode c_MD_line 88 = .ok (.getfield 117, 3) := by decide +kernel
theorem d_MD_line_91 : decode c_MD_line 91 = .ok (.ifCond .ge 18, 3) := by decide +kernel
theorem d_MD_line_94 : decode c_MD_line 94 = .ok (.iload 4, 2) := by decide +kernel
theorem d_MD_line_96 : decode c_MD_line 96 = .ok (.iload 5, 2) := by decide +kernel
theorem d_MD_line_98 : decode c_MD_line 98 = .ok (.invokestatic 100, 3) := by decide +kernel
theorem d_MD_line_101 : decode c_MD_line 101 = .ok (.ifCond .ne 8, 3) := by decide +kernel
theorem d_MD_line_104 : decode c_MD_line 104 = .ok (.aload_n 0, 1) := by decide +kernel
theorem d_MD_line_105 : decode c_MD_line 105 = .ok (.iload_n 2, 1) := by decide +kernel
theorem d_MD_line_106 : decode c_MD_line 106 = .ok (.invokevirtual 124, 3) := by decide +kernel
theorem d_MD_line_109 : decode c_MD_line 109 = .ok (.aload_n 0, 1) := by decide +kernel
theorem d_MD_line_110 : decode c_MD_line 110 = .ok (.getfield 117, 3) := by decide +kernel
theorem d_MD_line_113 : decode c_MD_line 113 = .ok (.ifCond .ge 61, 3) := by decide +kernel
theorem d_MD_line_116 : decode c_MD_line 116 = .ok (.iload 4, 2) := by decide +kernel
theorem d_MD_line_118 : decode c_MD_line 118 = .ok (.invokestatic 104, 3) := by decide +kernel
theorem d_MD_line_121 : decode c_MD_line 121 = .ok (.ifCond .eq 53, 3) := by decide +kernel
theorem d_MD_line_124 : decode c_MD_line 124 = .ok (.aload_n 0, 1) := by decide +kernel
theorem d_MD_line_125 : decode c_MD_line 125 = .ok (.bipush 32, 2) := by decide +kernel
theorem d_MD_line_127 : decode c_MD_line 127 = .ok (.invokevirtual 146, 3) := by decide +kernel
theorem d_MD_line_130 : decode c_MD_line 130 = .ok (.aload_n 0, 1) := by decide +kernel
theorem d_MD_line_131 : decode c_MD_line 131 = .ok (.getfield 117, 3) := by decide +kernel
theorem d_MD_line_134 : decode c_MD_line 134 = .ok (.ifCond .ge 10, 3) := by decide +kernel
theorem d_MD_line_137 : decode c_MD_line 137 = .ok (.aload_n 0, 1) := by decide +kernel
theorem d_MD_line_138 : decode c_MD_line 138 = .ok (.invokevirtual 143, 3) := by decide +kernel
theorem d_MD_line_141 : decode c_MD_line 141 = .ok (.goto 7, 3) := by decide +kernel
theorem d_MD_line_144 : decode c_MD_line 144 = .ok (.aload_n 0, 1) := by decide +kernel
theorem d_MD_line_145 : decode c_MD_line 145 = .ok (.getfield 114, 3) := by decide +kernel
theorem d_MD_line_148 : decode c_MD_line 148 = .ok (.istore_n 2, 1) := by decide +kernel
theorem d_MD_line_149 : decode c_MD_line 149 = .ok (.aload_n 0, 1) := by decide +kernel
theorem d_MD_line_150 : decode c_MD_line 150 = .ok (.getfield 117, 3) := by decide +kernel
theorem d_MD_line_153 : decode c_MD_line 153 = .ok (.ifCond .ge 21, 3) := by decide +kernel
theorem d_MD_line_156 : decode c_MD_line 156 = .ok (.aload_n 0, 1) := by decide +kernel
theorem d_MD_line_157 : decode c_MD_line 157 = .ok (.getfield 128, 3) := by decide +kernel
theorem d_MD_line_160 : decode c_MD_line 160 = .ok (.iconst 0, 1) := by decide +kernel
theorem d_MD_line_161 : decode c_MD_line 161 = .ok (.bipush 7, 2) := by decide +kernel
theorem d_MD_line_163 : decode c_MD_line 163 = .ok (.invokestatic 67, 3) := by decide +kernel
theorem d_MD_line_166 : decode c_MD_line 166 = .ok (.ifCond .ne 8, 3) := by decide +kernel
theorem d_MD_line_169 : decode c_MD_line 169 = .ok (.aload_n 0, 1) := by decide +kernel
theorem d_MD_line_170 : decode c_MD_line 170 = .ok (.iload_n 2, 1) := by decide +kernel
theorem d_MD_line_171 : decode c_MD_line 171 = .ok (.invokevirtual 124, 3) := by decide +kernel
theorem d_MD_line_174 : decode c_MD_line 174 = .ok (.aload_n 0, 1) := by decide +kernel
theorem d_MD_line_175 : decode c_MD_line 175 = .ok (.getfield 117, 3) := by decide +kernel
theorem d_MD_line_178 : decode c_MD_line 178 = .ok (.ifCond .ge 20, 3) := by decide +kernel
theorem d_MD_line_181 : decode c_MD_line 181 = .ok (.aload_n 0, 1) := by decide +kernel
theorem d_MD_line_182 : decode c_MD_line 182 = .ok (.getfield 114, 3) := by decide +kernel
theorem d_MD_line_185 : decode c_MD_line 185 = .ok (.aload_n 0, 1) := by decide +kernel
theorem d_MD_line_186 : decode c_MD_line 186 = .ok (.getfield 111, 3) := by decide +kernel
theorem d_MD_line_189 : decode c_MD_line 189 = .ok (.if_icmp .ge 9, 3) := by decide +kernel
theorem d_MD_line_192 : decode c_MD_line 192 = .ok (.aload_n 0, 1) := by decide +kernel
theorem d_MD_line_193 : decode c_MD_line 193 = .ok (.bipush 10, 2) := by decide +kernel
theorem d_MD_line_195 : decode c_MD_line 195 = .ok (.invokevirtual 146, 3) := by decide +kernel
theorem d_MD_line_198 : decode c_MD_line 198 = .ok (.iload_n 1, 1) := by decide +kernel
theorem d_MD_line_199 : decode c_MD_line 199 = .ok (.ifCond .eq 35, 3) := by decide +kernel
theorem d_MD_line_202 : decode c_MD_line 202 = .ok (.aload_n 0, 1) := by decide +kernel
theorem d_MD_line_203 : decode c_MD_line 203 = .ok (.getfield 117, 3) := by decide +kernel
theorem d_MD_line_206 : decode c_MD_line 206 = .ok (.ifCond .ge 28, 3) := by decide +kernel
theorem d_MD_line_209 : decode c_MD_line 209 = .ok (.aload_n 0, 1) := by decide +kernel
theorem d_MD_line_210 : decode c_MD_line 210 = .ok (.iload_n 3, 1) := by decide +kernel
theorem d_MD_line_211 : decode c_MD_line 211 = .ok (.iload 4, 2) := by decide +kernel
theorem d_MD_line_213 : decode c_MD_line 213 = .ok (.iload 5, 2) := by decide +kernel
theorem d_MD_line_215 : decode c_MD_line 215 = .ok (.iload 4, 2) := by decide +kernel
theorem d_MD_line_217 : decode c_MD_line 217 = .ok (.invokestatic 104, 3) := by decide +kernel
theorem d_MD_line_220 : decode c_MD_line 220 = .ok (.ifCond .eq 10, 3) := by decide +kernel
theorem d_MD_line_223 : decode c_MD_line 223 = .ok (.aload_n 0, 1) := by decide +kernel
theorem d_MD_line_224 : decode c_MD_line 224 = .ok (.getfield 128, 3) := by decide +kernel
theorem d_MD_line_227 : decode c_MD_line 227 = .ok (.goto 4, 3) := by decide +kernel
theorem d_MD_line_230 : decode c_MD_line 230 = .ok (.iconst 0, 1) := by decide +kernel
theorem d_MD_line_231 : decode c_MD_line 231 = .ok (.invokevirtual 107, 3) := by decide +kernel
theorem d_MD_line_234 : decode c_MD_line 234 = .ok (.return_, 1) := by decide +kernel
theorem d_MD_read_0 : decode c_MD_read 0 = .ok (.aload_n 0, 1) := by decide +kernel
theorem d_MD_read_1 : decode c_MD_read 1 = .ok (.iconst 0, 1) := by decide +kernel
theorem d_MD_read_2 : decode c_MD_read 2 = .ok (.putfield 63, 3) := by decide +kernel
theorem d_MD_read_5 : decode c_MD_read 5 = .ok (.aload_n 0, 1) := by decide +kernel
theorem d_MD_read_6 : decode c_MD_read 6 = .ok (.iconst (-1), 1) := by decide +kernel
theorem d_MD_read_7 : decode c_MD_read 7 = .ok (.putfield 117, 3) := by decide +kernel
theorem d_MD_read_10 : decode c_MD_read 10 = .ok (.iconst 0, 1) := by decide +kernel
theorem d_MD_read_11 : decode c_MD_read 11 = .ok (.istore_n 1, 1) := by decide +kernel
theorem d_MD_read_12 : decode c_MD_read 12 = .ok (.aload_n 0, 1) := by decide +kernel
theorem d_MD_read_13 : decode c_MD_read 13 = .ok (.iconst 0, 1) := by decide +kernel
theorem d_MD_read_14 : decode c_MD_read 14 = .ok (.putfield 114, 3) := by decide +kernel
theorem d_MD_read_17 : decode c_MD_read 17 = .ok (.aload_n 0, 1) := by decide +kernel
theorem d_MD_read_18 : decode c_MD_read 18 = .ok (.getfield 114, 3) := by decide +kernel
theorem d_MD_read_21 : decode c_MD_read 21 = .ok (.aload_n 0, 1) := by decide +kernel
theorem d_MD_read_22 : decode c_MD_read 22 = .ok (.getfield 111, 3) := by decide +kernel
theorem d_MD_read_25 : decode c_MD_read 25 = .ok (.if_icmp .ge 43, 3) := by decide +kernel
theorem d_MD_read_28 : decode c_MD_read 28 = .ok (.aload_n 0, 1) := by decide +kernel
theorem d_MD_read_29 : decode c_MD_read 29 = .ok (.getfield 117, 3) := by decide +kernel
theorem d_MD_read_32 : decode c_MD_read 32 = .ok (.ifCond .ge 36, 3) := by decide +kernel
theorem d_MD_read_35 : decode c_MD_read 35 = .ok (.aload_n 0, 1) := by decide +kernel
theorem d_MD_read_36 : decode c_MD_read 36 = .ok (.getfield 94, 3) := by decide +kernel
theorem d_MD_read_39 : decode c_MD_read 39 = .ok (.iload_n 1, 1) := by decide +kernel
theorem d_MD_read_40 : decode c_MD_read 40 = .ok (.iadd, 1) := by decide +kernel
theorem d_MD_read_41 : decode c_MD_read 41 = .ok (.bipush 24, 2) := by decide +kernel
theorem d_MD_read_43 : decode c_MD_read 43 = .ok (.if_icmp .ne 14, 3) := by decide +kernel
theorem d_MD_read_46 : decode c_MD_read 46 = .ok (.aload_n 0, 1) := by decide +kernel
theorem d_MD_read_47 : decode c_MD_read 47 = .ok (.aload_n 0, 1) := by decide +kernel
theorem d_MD_read_48 : decode c_MD_read 48 = .ok (.getfield 114, 3) := by decide +kernel
theorem d_MD_read_51 : decode c_MD_read 51 = .ok (.invokevirtual 124, 3) := by decide +kernel
theorem d_MD_read_54 : decode c_MD_read 54 = .ok (.goto (-37), 3) := by decide +kernel
theorem d_MD_read_57 : decode c_MD_read 57 = .ok (.aload_n 0, 1) := by decide +kernel
theorem d_MD_read_58 : decode c_MD_read 58 = .ok (.iconst 0, 1) := by decide +kernel
theorem d_MD_read_59 : decode c_MD_read 59 = .ok (.invokevirtual 152, 3) := by decide +kernel
theorem d_MD_read_62 : decode c_MD_read 62 = .ok (.iinc 1 1, 3) := by decide +kernel
theorem d_MD_read_65 : decode c_MD_read 65 = .ok (.goto (-48), 3) := by decide +kernel
theorem d_MD_read_68 : decode c_MD_read 68 = .ok (.aload_n 0, 1) := by decide +kernel
theorem d_MD_read_69 : decode c_MD_read 69 = .ok (.iconst 0, 1) := by decide +kernel
theorem d_MD_read_70 : decode c_MD_read 70 = .ok (.putfield 114, 3) := by decide +kernel
theorem d_MD_read_73 : decode c_MD_read 73 = .ok (.aload_n 0, 1) := by decide +kernel
theorem d_MD_read_74 : decode c_MD_read 74 = .ok (.getfield 114, 3) := by decide +kernel
theorem d_MD_read_77 : decode c_MD_read 77 = .ok (.aload_n 0, 1) := by decide +kernel
theorem d_MD_read_78 : decode c_MD_read 78 = .ok (.getfield 111, 3) := by decide +kernel
theorem d_MD_read_81 : decode c_MD_read 81 = .ok (.if_icmp .ge 18, 3) := by decide +kernel
theorem d_MD_read_84 : decode c_MD_read 84 = .ok (.aload_n 0, 1) := by decide +kernel
theorem d_MD_read_85 : decode c_MD_read 85 = .ok (.getfield 117, 3) := by decide +kernel
theorem d_MD_read_88 : decode c_MD_read 88 = .ok (.ifCond .ge 11, 3) := by decide +kernel
theorem d_MD_read_91 : decode c_MD_read 91 = .ok (.aload_n 0, 1) := by decide +kernel
theorem d_MD_read_92 : decode c_MD_read 92 = .ok (.iconst 1, 1) := by decide +kernel
theorem d_MD_read_93 : decode c_MD_read 93 = .ok (.invokevirtual 152, 3) := by decide +kernel
theorem d_MD_read_96 : decode c_MD_read 96 = .ok (.goto (-23), 3) := by decide +kernel
theorem d_MD_read_99 : decode c_MD_read 99 = .ok (.aload_n 0, 1) := by decide +kernel
theorem d_MD_read_100 : decode c_MD_read 100 = .ok (.iconst 0, 1) := by decide +kernel
theorem d_MD_read_101 : decode c_MD_read 101 = .ok (.putfield 111, 3) := by decide +kernel
theorem d_MD_read_104 : decode c_MD_read 104 = .ok (.aload_n 0, 1) := by decide +kernel
theorem d_MD_read_105 : decode c_MD_read 105 = .ok (.getfield 117, 3) := by decide +kernel
theorem d_MD_read_108 : decode c_MD_read 108 = .ok (.ifCond .lt 12, 3) := by decide +kernel
theorem d_MD_read_111 : decode c_MD_read 111 = .ok (.iconst (-1), 1) := by decide +kernel
theorem d_MD_read_112 : decode c_MD_read 112 = .ok (.aload_n 0, 1) := by decide +kernel
theorem d_MD_read_113 : decode c_MD_read 113 = .ok (.getfield 117, 3) := by decide +kernel
theorem d_MD_read_116 : decode c_MD_read 116 = .ok (.isub, 1) := by decide +kernel
theorem d_MD_read_117 : decode c_MD_read 117 = .ok (.goto 4, 3) := by decide +kernel
theorem d_MD_read_120 : decode c_MD_read 120 = .ok (.iload_n 1, 1) := by decide +kernel
theorem d_MD_read_121 : decode c_MD_read 121 = .ok (.ireturn, 1) := by decide +kernel
theorem d_MD_own_0 : decode c_MD_own 0 = .ok (.aload_n 0, 1) := by decide +kernel
theorem d_MD_own_1 : decode c_MD_own 1 = .ok (.iload_n 1, 1) := by decide +kernel
theorem d_MD_own_2 : decode c_MD_own 2 = .ok (.iconst 0, 1) := by decide +kernel
theorem d_MD_own_3 : decode c_MD_own 3 = .ok (.iconst 3, 1) := by decide +kernel
theorem d_MD_own_4 : decode c_MD_own 4 = .ok (.invokestatic 67, 3) := by decide +kernel
theorem d_MD_own_7 : decode c_MD_own 7 = .ok (.ifCond .eq 12, 3) := by decide +kernel
theorem d_MD_own_10 : decode c_MD_own 10 = .ok (.iload_n 2, 1) := by decide +kernel
theorem d_MD_own_11 : decode c_MD_own 11 = .ok (.iconst 0, 1) := by decide +kernel
theorem d_MD_own_12 : decode c_MD_own 12 = .ok (.iconst 3, 1) := by decide +kernel
theorem d_MD_own_13 : decode c_MD_own 13 = .ok (.invokestatic 67, 3) := by decide +kernel
theorem d_MD_own_16 : decode c_MD_own 16 = .ok (.ifCond .ne 7, 3) := by decide +kernel
theorem d_MD_own_19 : decode c_MD_own 19 = .ok (.iconst 1, 1) := by decide +kernel
theorem d_MD_own_20 : decode c_MD_own 20 = .ok (.goto 4, 3) := by decide +kernel
theorem d_MD_own_23 : decode c_MD_own 23 = .ok (.iconst 0, 1) := by decide +kernel
theorem d_MD_own_24 : decode c_MD_own 24 = .ok (.iconst 0, 1) := by decide +kernel
theorem d_MD_own_25 : decode c_MD_own 25 = .ok (.iconst 0, 1) := by decide +kernel
theorem d_MD_own_26 : decode c_MD_own 26 = .ok (.invokevirtual 78, 3) := by decide +kernel
theorem d_MD_own_29 : decode c_MD_own 29 = .ok (.ifCond .ne 10, 3) := by decide +kernel
theorem d_MD_own_32 : decode c_MD_own 32 = .ok (.aload_n 0, 1) := by decide +kernel
theorem d_MD_own_33 : decode c_MD_own 33 = .ok (.getfield 47, 3) := by decide +kernel
theorem d_MD_own_36 : decode c_MD_own 36 = .ok (.iload_n 1, 1) := by decide +kernel
theorem d_MD_own_37 : decode c_MD_own 37 = .ok (.iload_n 2, 1) := by decide +kernel
theorem d_MD_own_38 : decode c_MD_own 38 = .ok (.iastore, 1) := by decide +kernel
theorem d_MD_own_39 : decode c_MD_own 39 = .ok (.return_, 1) := by decide +kernel
theorem d_MD_except_0 : decode c_MD_except 0 = .ok (.iconst (-1), 1) := by decide +kernel
theorem d_MD_except_1 : decode c_MD_except 1 = .ok (.istore 5, 2) := by decide +kernel
theorem d_MD_except_3 : decode c_MD_except 3 = .ok (.iconst 0, 1) := by decide +kernel
theorem d_MD_except_4 : decode c_MD_except 4 = .ok (.istore 6, 2) := by decide +kernel
theorem d_MD_except_6 : decode c_MD_except 6 = .ok (.iload 6, 2) := by decide +kernel
theorem d_MD_except_8 : decode c_MD_except 8 = .ok (.aload_n 0, 1) := by decide +kernel
theorem d_MD_except_9 : decode c_MD_except 9 = .ok (.getfield 156, 3) := by decide +kernel
theorem d_MD_except_12 : decode c_MD_except 12 = .ok (.if_icmp .ge 51, 3) := by decide +kernel
theorem d_MD_except_15 : decode c_MD_except 15 = .ok (.aload_n 0, 1) := by decide +kernel
theorem d_MD_except_16 : decode c_MD_except 16 = .ok (.getfield 35, 3) := by decide +kernel
theorem d_MD_except_19 : decode c_MD_except 19 = .ok (.iload 6, 2) := by decide +kernel
theorem d_MD_except_21 : decode c_MD_except 21 = .ok (.iaload, 1) := by decide +kernel
theorem d_MD_except_22 : decode c_MD_except 22 = .ok (.iload_n 1, 1) := by decide +kernel
theorem d_MD_except_23 : decode c_MD_except 23 = .ok (.if_icmp .ne 30, 3) := by decide +kernel
theorem d_MD_except_26 : decode c_MD_except 26 = .ok (.aload_n 0, 1) := by decide +kernel
theorem d_MD_except_27 : decode c_MD_except 27 = .ok (.getfield 38, 3) := by decide +kernel
theorem d_MD_except_30 : decode c_MD_except 30 = .ok (.iload 6, 2) := by decide +kernel
theorem d_MD_except_32 : decode c_MD_except 32 = .ok (.iaload, 1) := by decide +kernel
theorem d_MD_except_33 : decode c_MD_except 33 = .ok (.iload_n 2, 1) := by decide +kernel
theorem d_MD_except_34 : decode c_MD_except 34 = .ok (.if_icmp .ne 19, 3) := by decide +kernel
theorem d_MD_except_37 : decode c_MD_except 37 = .ok (.aload_n 0, 1) := by decide +kernel
theorem d_MD_except_38 : decode c_MD_except 38 = .ok (.getfield 41, 3) := by decide +kernel
theorem d_MD_except_41 : decode c_MD_except 41 = .ok (.iload 6, 2) := by decide +kernel
theorem d_MD_except_43 : decode c_MD_except 43 = .ok (.iaload, 1) := by decide +kernel
theorem d_MD_except_44 : decode c_MD_except 44 = .ok (.iload_n 3, 1) := by decide +kernel
theorem d_MD_except_45 : decode c_MD_except 45 = .ok (.if_icmp .ne 8, 3) := by decide +kernel
theorem d_MD_except_48 : decode c_MD_except 48 = .ok (.iload 6, 2) := by decide +kernel
theorem d_MD_except_50 : decode c_MD_except 50 = .ok (.goto 5, 3) := by decide +kernel
theorem d_MD_except_53 : decode c_MD_except 53 = .ok (.iload 5, 2) := by decide +kernel
theorem d_MD_except_55 : decode c_MD_except 55 = .ok (.istore 5, 2) := by decide +kernel
theorem d_MD_except_57 : decode c_MD_except 57 = .ok (.iinc 6 1, 3) := by decide +kernel
theorem d_MD_except_60 : decode c_MD_except 60 = .ok (.goto (-54), 3) := by decide +kernel
theorem d_MD_except_63 : decode c_MD_except 63 = .ok (.iload_n 2, 1) := by decide +kernel
theorem d_MD_except_64 : decode c_MD_except 64 = .ok (.iconst (-1), 1) := by decide +kernel
theorem d_MD_except_65 : decode c_MD_except 65 = .ok (.bipush 11, 2) := by decide +kernel
theorem d_MD_except_67 : decode c_MD_except 67 = .ok (.invokestatic 67, 3) := by decide +kernel
theorem d_MD_except_70 : decode c_MD_except 70 = .ok (.ifCond .eq 25, 3) := by decide +kernel
theorem d_MD_except_73 : decode c_MD_except 73 = .ok (.iload_n 3, 1) := by decide +kernel
theorem d_MD_except_74 : decode c_MD_except 74 = .ok (.iconst (-1), 1) := by decide +kernel
theorem d_MD_except_75 : decode c_MD_except 75 = .ok (.bipush 7, 2) := by decide +kernel
theorem d_MD_except_77 : decode c_MD_except 77 = .ok (.invokestatic 67, 3) := by decide +kernel
theorem d_MD_except_80 : decode c_MD_except 80 = .ok (.ifCond .eq 15, 3) := by decide +kernel
theorem d_MD_except_83 : decode c_MD_except 83 = .ok (.iload 4, 2) := by decide +kernel
theorem d_MD_except_85 : decode c_MD_except 85 = .ok (.iconst 0, 1) := by decide +kernel
theorem d_MD_except_86 : decode c_MD_except 86 = .ok (.sipush 1000, 3) := by decide +kernel
theorem d_MD_except_89 : decode c_MD_except 89 = .ok (.invokestatic 67, 3) := by decide +kernel
theorem d_MD_except_92 : decode c_MD_except 92 = .ok (.ifCond .ne 7, 3) := by decide +kernel
theorem d_MD_except_95 : decode c_MD_except 95 = .ok (.iconst 1, 1) := by decide +kernel
theorem d_MD_except_96 : decode c_MD_except 96 = .ok (.goto 4, 3) := by decide +kernel
theorem d_MD_except_99 : decode c_MD_except 99 = .ok (.iconst 0, 1) := by decide +kernel
theorem d_MD_except_100 : decode c_MD_except 100 = .ok (.istore 6, 2) := by decide +kernel
theorem d_MD_except_102 : decode c_MD_except 102 = .ok (.aload_n 0, 1) := by decide +kernel
theorem d_MD_except_103 : decode c_MD_except 103 = .ok (.iload_n 1, 1) := by decide +kernel
theorem d_MD_except_104 : decode c_MD_except 104 = .ok (.iconst 0, 1) := by decide +kernel
theorem d_MD_except_105 : decode c_MD_except 105 = .ok (.aload_n 0, 1) := by decide +kernel
theorem d_MD_except_106 : decode c_MD_except 106 = .ok (.getfield 94, 3) := by decide +kernel
theorem d_MD_except_109 : decode c_MD_except 109 = .ok (.iconst 1, 1) := by decide +kernel
theorem d_MD_except_110 : decode c_MD_except 110 = .ok (.isub, 1) := by decide +kernel
theorem d_MD_except_111 : decode c_MD_except 111 = .ok (.invokestatic 67, 3) := by decide +kernel
theorem d_MD_except_114 : decode c_MD_except 114 = .ok (.ifCond .ne 7, 3) := by decide +kernel
theorem d_MD_except_117 : decode c_MD_except 117 = .ok (.iconst 1, 1) := by decide +kernel
theorem d_MD_except_118 : decode c_MD_except 118 = .ok (.goto 4, 3) := by decide +kernel
theorem d_MD_except_121 : decode c_MD_except 121 = .ok (.iconst 0, 1) := by decide +kernel
theorem d_MD_except_122 : decode c_MD_except 122 = .ok (.iload 6, 2) := by decide +kernel
theorem d_MD_except_124 : decode c_MD_except 124 = .ok (.iload 5, 2) := by decide +kernel
theorem d_MD_except_126 : decode c_MD_except 126 = .ok (.ifCond .ge 16, 3) := by decide +kernel
theorem d_MD_except_129 : decode c_MD_except 129 = .ok (.aload_n 0, 1) := by decide +kernel
theorem d_MD_except_130 : decode c_MD_except 130 = .ok (.getfield 156, 3) := by decide +kernel
theorem d_MD_except_133 : decode c_MD_except 133 = .ok (.bipush 20, 2) := by decide +kernel
theorem d_MD_except_135 : decode c_MD_except 135 = .ok (.if_icmp .ne 7, 3) := by decide +kernel
theorem d_MD_except_138 : decode c_MD_except 138 = .ok (.iconst 1, 1) := by decide +kernel
theorem d_MD_except_139 : decode c_MD_except 139 = .ok (.goto 4, 3) := by decide +kernel
theorem d_MD_except_142 : decode c_MD_except 142 = .ok (.iconst 0, 1) := by decide +kernel
theorem d_MD_except_143 : decode c_MD_except 143 = .ok (.invokevirtual 78, 3) := by decide +kernel
theorem d_MD_except_146 : decode c_MD_except 146 = .ok (.ifCond .eq 4, 3) := by decide +kernel
theorem d_MD_except_149 : decode c_MD_except 149 = .ok (.return_, 1) := by decide +kernel
theorem d_MD_except_150 : decode c_MD_except 150 = .ok (.iload 5, 2) := by decide +kernel
theorem d_MD_except_152 : decode c_MD_except 152 = .ok (.ifCond .lt 35, 3) := by decide +kernel
theorem d_MD_except_155 : decode c_MD_except 155 = .ok (.aload_n 0, 1) := by decide +kernel
theorem d_MD_except_156 : decode c_MD_except 156 = .ok (.getfield 44, 3) := by decide +kernel
theorem d_MD_except_159 : decode c_MD_except 159 = .ok (.iload 5, 2) := by decide +kernel
theorem d_MD_except_161 : decode c_MD_except 161 = .ok (.iload 4, 2) := by decide +kernel
theorem d_MD_except_163 : decode c_MD_except 163 = .ok (.aload_n 0, 1) := by decide +kernel
theorem d_MD_except_164 : decode c_MD_except 164 = .ok (.getfield 44, 3) := by decide +kernel
theorem d_MD_except_167 : decode c_MD_except 167 = .ok (.iload 5, 2) := by decide +kernel
theorem d_MD_except_169 : decode c_MD_except 169 = .ok (.iaload, 1) := by decide +kernel
theorem d_MD_except_170 : decode c_MD_except 170 = .ok (.if_icmp .le 8, 3) := by decide +kernel
theorem d_MD_except_173 : decode c_MD_except 173 = .ok (.iload 4, 2) := by decide +kernel
theorem d_MD_except_175 : decode c_MD_except 175 = .ok (.goto 10, 3) := by decide +kernel
theorem d_MD_except_178 : decode c_MD_except 178 = .ok (.aload_n 0, 1) := by decide +kernel
theorem d_MD_except_179 : decode c_MD_except 179 = .ok (.getfield 44, 3) := by decide +kernel
theorem d_MD_except_182 : decode c_MD_except 182 = .ok (.iload 5, 2) := by decide +kernel
theorem d_MD_except_184 : decode c_MD_except 184 = .ok (.iaload, 1) := by decide +kernel
theorem d_MD_except_185 : decode c_MD_except 185 = .ok (.iastore, 1) := by decide +kernel
theorem d_MD_except_186 : decode c_MD_except 186 = .ok (.return_, 1) := by decide +kernel
theorem d_MD_except_187 : decode c_MD_except 187 = .ok (.aload_n 0, 1) := by decide +kernel
theorem d_MD_except_188 : decode c_MD_except 188 = .ok (.getfield 35, 3) := by decide +kernel
theorem d_MD_except_191 : decode c_MD_except 191 = .ok (.aload_n 0, 1) := by decide +kernel
theorem d_MD_except_192 : decode c_MD_except 192 = .ok (.getfield 156, 3) := by decide +kernel
theorem d_MD_except_195 : decode c_MD_except 195 = .ok (.iload_n 1, 1) := by decide +kernel
theorem d_MD_except_196 : decode c_MD_except 196 = .ok (.iastore, 1) := by decide +kernel
theorem d_MD_except_197 : decode c_MD_except 197 = .ok (.aload_n 0, 1) := by decide +kernel
theorem d_MD_except_198 : decode c_MD_except 198 = .ok (.getfield 38, 3) := by decide +kernel
theorem d_MD_except_201 : decode c_MD_except 201 = .ok (.aload_n 0, 1) := by decide +kernel
theorem d_MD_except_202 : decode c_MD_except 202 = .ok (.getfield 156, 3) := by decide +kernel
theorem d_MD_except_205 : decode c_MD_except 205 = .ok (.iload_n 2, 1) := by decide +kernel
theorem d_MD_except_206 : decode c_MD_except 206 = .ok (.iastore, 1) := by decide +kernel
theorem d_MD_except_207 : decode c_MD_except 207 = .ok (.aload_n 0, 1) := by decide +kernel
theorem d_MD_except_208 : decode c_MD_except 208 = .ok (.getfield 41, 3) := by decide +kernel
theorem d_MD_except_211 : decode c_MD_except 211 = .ok (.aload_n 0, 1) := by decide +kernel
theorem d_MD_except_212 : decode c_MD_except 212 = .ok (.getfield 156, 3) := by decide +kernel
theorem d_MD_except_215 : decode c_MD_except 215 = .ok (.iload_n 3, 1) := by decide +kernel
theorem d_MD_except_216 : decode c_MD_except 216 = .ok (.iastore, 1) := by decide +kernel
theorem d_MD_except_217 : decode c_MD_except 217 = .ok (.aload_n 0, 1) := by decide +kernel
theorem d_MD_except_218 : decode c_MD_except 218 = .ok (.getfield 44, 3) := by decide +kernel
theorem d_MD_except_221 : decode c_MD_except 221 = .ok (.aload_n 0, 1) := by decide +kernel
theorem d_MD_except_222 : decode c_MD_except 222 = .ok (.getfield 156, 3) := by decide +kernel
theorem d_MD_except_225 : decode c_MD_except 225 = .ok (.iload 4, 2) := by decide +kernel
theorem d_MD_except_227 : decode c_MD_except 227 = .ok (.iastore, 1) := by decide +kernel
theorem d_MD_except_228 : decode c_MD_except 228 = .ok (.aload_n 0, 1) := by decide +kernel
theorem d_MD_except_229 : decode c_MD_except 229 = .ok (.dup, 1) := by decide +kernel
theorem d_MD_except_230 : decode c_MD_except 230 = .ok (.getfield 156, 3) := by decide +kernel
theorem d_MD_except_233 : decode c_MD_except 233 = .ok (.iconst 1, 1) := by decide +kernel
theorem d_MD_except_234 : decode c_MD_except 234 = .ok (.iadd, 1) := by decide +kernel
theorem d_MD_except_235 : decode c_MD_except 235 = .ok (.putfield 156, 3) := by decide +kernel
theorem d_MD_except_238 : decode c_MD_except 238 = .ok (.return_, 1) := by decide +kernel
theorem d_MD_isExcepted_0 : decode c_MD_isExcepted 0 = .ok (.iconst 0, 1) := by decide +kernel
theorem d_MD_isExcepted_1 : decode c_MD_isExcepted 1 = .ok (.istore 5, 2) := by decide +kernel
theorem d_MD_isExcepted_3 : decode c_MD_isExcepted 3 = .ok (.iconst 0, 1) := by decide +kernel
theorem d_MD_isExcepted_4 : decode c_MD_isExcepted 4 = .ok (.istore 6, 2) := by decide +kernel
theorem d_MD_isExcepted_6 : decode c_MD_isExcepted 6 = .ok (.iload 6, 2) := by decide +kernel
theorem d_MD_isExcepted_8 : decode c_MD_isExcepted 8 = .ok (.aload_n 0, 1) := by decide +kernel
theorem d_MD_isExcepted_9 : decode c_MD_isExcepted 9 = .ok (.getfield 156, 3) := by decide +kernel
theorem d_MD_isExcepted_12 : decode c_MD_isExcepted 12 = .ok (.if_icmp .ge 120, 3) := by decide +kernel
theorem d_MD_isExcepted_15 : decode c_MD_isExcepted 15 = .ok (.aload_n 0, 1) := by decide +kernel
theorem d_MD_isExcepted_16 : decode c_MD_isExcepted 16 = .ok (.getfield 38, 3) := by decide +kernel
theorem d_MD_isExcepted_19 : decode c_MD_isExcepted 19 = .ok (.iload 6, 2) := by decide +kernel
theorem d_MD_isExcepted_21 : decode c_MD_isExcepted 21 = .ok (.iaload, 1) := by decide +kernel
theorem d_MD_isExcepted_22 : decode c_MD_isExcepted 22 = .ok (.ifCond .lt 14, 3) := by decide +kernel
theorem d_MD_isExcepted_25 : decode c_MD_isExcepted 25 = .ok (.aload_n 0, 1) := by decide +kernel
theorem d_MD_isExcepted_26 : decode c_MD_isExcepted 26 = .ok (.getfield 38, 3) := by decide +kernel
theorem d_MD_isExcepted_29 : decode c_MD_isExcepted 29 = .ok (.iload 6, 2) := by decide +kernel
theorem d_MD_isExcepted_31 : decode c_MD_isExcepted 31 = .ok (.iaload, 1) := by decide +kernel
theorem d_MD_isExcepted_32 : decode c_MD_isExcepted 32 = .ok (.iload_n 3, 1) := by decide +kernel
theorem d_MD_isExcepted_33 : decode c_MD_isExcepted 33 = .ok (.if_icmp .ne 7, 3) := by decide +kernel
theorem d_MD_isExcepted_36 : decode c_MD_isExcepted 36 = .ok (.iconst 1, 1) := by decide +kernel
theorem d_MD_isExcepted_37 : decode c_MD_isExcepted 37 = .ok (.goto 4, 3) := by decide +kernel
theorem d_MD_isExcepted_40 : decode c_MD_isExcepted 40 = .ok (.iconst 0, 1) := by decide +kernel
theorem d_MD_isExcepted_41 : decode c_MD_isExcepted 41 = .ok (.istore 7, 2) := by decide +kernel
theorem d_MD_isExcepted_43 : decode c_MD_isExcepted 43 = .ok (.aload_n 0, 1) := by decide +kernel
theorem d_MD_isExcepted_44 : decode c_MD_isExcepted 44 = .ok (.getfield 41, 3) := by decide +kernel
theorem d_MD_isExcepted_47 : decode c_MD_isExcepted 47 = .ok (.iload 6, 2) := by decide +kernel
theorem d_MD_isExcepted_49 : decode c_MD_isExcepted 49 = .ok (.iaload, 1) := by decide +kernel
theorem d_MD_isExcepted_50 : decode c_MD_isExcepted 50 = .ok (.ifCond .lt 24, 3) := by decide +kernel
theorem d_MD_isExcepted_53 : decode c_MD_isExcepted 53 = .ok (.aload_n 0, 1) := by decide +kernel
theorem d_MD_isExcepted_54 : decode c_MD_isExcepted 54 = .ok (.getfield 41, 3) := by decide +kernel
theorem d_MD_isExcepted_57 : decode c_MD_isExcepted 57 = .ok (.iload 6, 2) := by decide +kernel
theorem d_MD_isExcepted_59 : decode c_MD_isExcepted 59 = .ok (.iaload, 1) := by decide +kernel
theorem d_MD_isExcepted_60 : decode c_MD_isExcepted 60 = .ok (.aload_n 0, 1) := by decide +kernel
theorem d_MD_isExcepted_61 : decode c_MD_isExcepted 61 = .ok (.getfield 13, 3) := by decide +kernel
theorem d_MD_isExcepted_64 : decode c_MD_isExcepted 64 = .ok (.bipush 10, 2) := by decide +kernel
theorem d_MD_isExcepted_66 : decode c_MD_isExcepted 66 = .ok (.iload_n 2, 1) := by decide +kernel
theorem d_MD_isExcepted_67 : decode c_MD_isExcepted 67 = .ok (.imul, 1) := by decide +kernel
theorem d_MD_isExcepted_68 : decode c_MD_isExcepted 68 = .ok (.iconst 2, 1) := by decide +kernel
theorem d_MD_isExcepted_69 : decode c_MD_isExcepted 69 = .ok (.iadd, 1) := by decide +kernel
theorem d_MD_isExcepted_70 : decode c_MD_isExcepted 70 = .ok (.iaload, 1) := by decide +kernel
theorem d_MD_isExcepted_71 : decode c_MD_isExcepted 71 = .ok (.if_icmp .ne 7, 3) := by decide +kernel
theorem d_MD_isExcepted_74 : decode c_MD_isExcepted 74 = .ok (.iconst 1, 1) := by decide +kernel
theorem d_MD_isExcepted_75 : decode c_MD_isExcepted 75 = .ok (.goto 4, 3) := by decide +kernel
theorem d_MD_isExcepted_78 : decode c_MD_isExcepted 78 = .ok (.iconst 0, 1) := by decide +kernel
theorem d_MD_isExcepted_79 : decode c_MD_isExcepted 79 = .ok (.istore 8, 2) := by decide +kernel
theorem d_MD_isExcepted_81 : decode c_MD_isExcepted 81 = .ok (.iload 5, 2) := by decide +kernel
theorem d_MD_isExcepted_83 : decode c_MD_isExcepted 83 = .ok (.ifCond .ne 36, 3) := by decide +kernel
theorem d_MD_isExcepted_86 : decode c_MD_isExcepted 86 = .ok (.aload_n 0, 1) := by decide +kernel
theorem d_MD_isExcepted_87 : decode c_MD_isExcepted 87 = .ok (.getfield 35, 3) := by decide +kernel
theorem d_MD_isExcepted_90 : decode c_MD_isExcepted 90 = .ok (.iload 6, 2) := by decide +kernel
theorem d_MD_isExcepted_92 : decode c_MD_isExcepted 92 = .ok (.iaload, 1) := by decide +kernel
theorem d_MD_isExcepted_93 : decode c_MD_isExcepted 93 = .ok (.iload_n 1, 1) := by decide +kernel
theorem d_MD_isExcepted_94 : decode c_MD_isExcepted 94 = .ok (.if_icmp .ne 29, 3) := by decide +kernel
theorem d_MD_isExcepted_97 : decode c_MD_isExcepted 97 = .ok (.iload 7, 2) := by decide +kernel
theorem d_MD_isExcepted_99 : decode c_MD_isExcepted 99 = .ok (.ifCond .eq 24, 3) := by decide +kernel
theorem d_MD_isExcepted_102 : decode c_MD_isExcepted 102 = .ok (.iload 8, 2) := by decide +kernel
theorem d_MD_isExcepted_104 : decode c_MD_isExcepted 104 = .ok (.ifCond .eq 19, 3) := by decide +kernel
theorem d_MD_isExcepted_107 : decode c_MD_isExcepted 107 = .ok (.iload 4, 2) := by decide +kernel
theorem d_MD_isExcepted_109 : decode c_MD_isExcepted 109 = .ok (.aload_n 0, 1) := by decide +kernel
theorem d_MD_isExcepted_110 : decode c_MD_isExcepted 110 = .ok (.getfield 44, 3) := by decide +kernel
theorem d_MD_isExcepted_113 : decode c_MD_isExcepted 113 = .ok (.iload 6, 2) := by decide +kernel
theorem d_MD_isExcepted_115 : decode c_MD_isExcepted 115 = .ok (.iaload, 1) := by decide +kernel
theorem d_MD_isExcepted_116 : decode c_MD_isExcepted 116 = .ok (.if_icmp .gt 7, 3) := by decide +kernel
theorem d_MD_isExcepted_119 : decode c_MD_isExcepted 119 = .ok (.iconst 1, 1) := by decide +kernel
theorem d_MD_isExcepted_120 : decode c_MD_isExcepted 120 = .ok (.goto 4, 3) := by decide +kernel
theorem d_MD_isExcepted_123 : decode c_MD_isExcepted 123 = .ok (.iconst 0, 1) := by decide +kernel
theorem d_MD_isExcepted_124 : decode c_MD_isExcepted 124 = .ok (.istore 5, 2) := by decide +kernel
theorem d_MD_isExcepted_126 : decode c_MD_isExcepted 126 = .ok (.iinc 6 1, 3) := by decide +kernel
theorem d_MD_isExcepted_129 : decode c_MD_isExcepted 129 = .ok (.goto (-123), 3) := by decide +kernel
theorem d_MD_isExcepted_132 : decode c_MD_isExcepted 132 = .ok (.iload 5, 2) := by decide +kernel
theorem d_MD_isExcepted_134 : decode c_MD_isExcepted 134 = .ok (.ireturn, 1) := by decide +kernel
theorem d_MD_isThere_0 : decode c_MD_isThere 0 = .ok (.iload_n 1, 1) := by decide +kernel
theorem d_MD_isThere_1 : decode c_MD_isThere 1 = .ok (.iload_n 2, 1) := by decide +kernel
theorem d_MD_isThere_2 : decode c_MD_isThere 2 = .ok (.if_icmp .eq 13, 3) := by decide +kernel
theorem d_MD_isThere_5 : decode c_MD_isThere 5 = .ok (.aload_n 0, 1) := by decide +kernel
theorem d_MD_isThere_6 : decode c_MD_isThere 6 = .ok (.getfield 16, 3) := by decide +kernel
theorem d_MD_isThere_9 : decode c_MD_isThere 9 = .ok (.iload_n 1, 1) := by decide +kernel
theorem d_MD_isThere_10 : decode c_MD_isThere 10 = .ok (.iaload, 1) := by decide +kernel
theorem d_MD_isThere_11 : decode c_MD_isThere 11 = .ok (.iload_n 3, 1) := by decide +kernel
theorem d_MD_isThere_12 : decode c_MD_isThere 12 = .ok (.if_icmp .ne 7, 3) := by decide +kernel
theorem d_MD_isThere_15 : decode c_MD_isThere 15 = .ok (.iconst 1, 1) := by decide +kernel
theorem d_MD_isThere_16 : decode c_MD_isThere 16 = .ok (.goto 4, 3) := by decide +kernel
theorem d_MD_isThere_19 : decode c_MD_isThere 19 = .ok (.iconst 0, 1) := by decide +kernel
theorem d_MD_isThere_20 : decode c_MD_isThere 20 = .ok (.ireturn, 1) := by decide +kernel
theorem d_MD_unlike_0 : decode c_MD_unlike 0 = .ok (.iconst 0, 1) := by decide +kernel
theorem d_MD_unlike_1 : decode c_MD_unlike 1 = .ok (.istore 4, 2) := by decide +kernel
theorem d_MD_unlike_3 : decode c_MD_unlike 3 = .ok (.iconst 0, 1) := by decide +kernel
theorem d_MD_unlike_4 : decode c_MD_unlike 4 = .ok (.istore 5, 2) := by decide +kernel
theorem d_MD_unlike_6 : decode c_MD_unlike 6 = .ok (.iload 5, 2) := by decide +kernel
theorem d_MD_unlike_8 : decode c_MD_unlike 8 = .ok (.aload_n 0, 1) := by decide +kernel
theorem d_MD_unlike_9 : decode c_MD_unlike 9 = .ok (.getfield 83, 3) := by decide +kernel
theorem d_MD_unlike_12 : decode c_MD_unlike 12 = .ok (.if_icmp .ge 174, 3) := by decide +kernel
theorem d_MD_unlike_15 : decode c_MD_unlike 15 = .ok (.aload_n 0, 1) := by decide +kernel
theorem d_MD_unlike_16 : decode c_MD_unlike 16 = .ok (.iload 5, 2) := by decide +kernel
theorem d_MD_unlike_18 : decode c_MD_unlike 18 = .ok (.iload_n 1, 1) := by decide +kernel
theorem d_MD_unlike_19 : decode c_MD_unlike 19 = .ok (.iload_n 2, 1) := by decide +kernel
theorem d_MD_unlike_20 : decode c_MD_unlike 20 = .ok (.invokevirtual 159, 3) := by decide +kernel
theorem d_MD_unlike_23 : decode c_MD_unlike 23 = .ok (.ifCond .eq 34, 3) := by decide +kernel
theorem d_MD_unlike_26 : decode c_MD_unlike 26 = .ok (.iload_n 3, 1) := by decide +kernel
theorem d_MD_unlike_27 : decode c_MD_unlike 27 = .ok (.iconst 1, 1) := by decide +kernel
theorem d_MD_unlike_28 : decode c_MD_unlike 28 = .ok (.if_icmp .ne 25, 3) := by decide +kernel
theorem d_MD_unlike_31 : decode c_MD_unlike 31 = .ok (.aload_n 0, 1) := by decide +kernel
theorem d_MD_unlike_32 : decode c_MD_unlike 32 = .ok (.getfield 13, 3) := by decide +kernel
theorem d_MD_unlike_35 : decode c_MD_unlike 35 = .ok (.bipush 10, 2) := by decide +kernel
theorem d_MD_unlike_37 : decode c_MD_unlike 37 = .ok (.iload 5, 2) := by decide +kernel
theorem d_MD_unlike_39 : decode c_MD_unlike 39 = .ok (.imul, 1) := by decide +kernel
theorem d_MD_unlike_40 : decode c_MD_unlike 40 = .ok (.iaload, 1) := by decide +kernel
theorem d_MD_unlike_41 : decode c_MD_unlike 41 = .ok (.aload_n 0, 1) := by decide +kernel
theorem d_MD_unlike_42 : decode c_MD_unlike 42 = .ok (.getfield 13, 3) := by decide +kernel
theorem d_MD_unlike_45 : decode c_MD_unlike 45 = .ok (.bipush 10, 2) := by decide +kernel
theorem d_MD_unlike_47 : decode c_MD_unlike 47 = .ok (.iload_n 1, 1) := by decide +kernel
theorem d_MD_unlike_48 : decode c_MD_unlike 48 = .ok (.imul, 1) := by decide +kernel
theorem d_MD_unlike_49 : decode c_MD_unlike 49 = .ok (.iaload, 1) := by decide +kernel
theorem d_MD_unlike_50 : decode c_MD_unlike 50 = .ok (.if_icmp .ne 7, 3) := by decide +kernel
theorem d_MD_unlike_53 : decode c_MD_unlike 53 = .ok (.iconst 1, 1) := by decide +kernel
theorem d_MD_unlike_54 : decode c_MD_unlike 54 = .ok (.goto 4, 3) := by decide +kernel
theorem d_MD_unlike_57 : decode c_MD_unlike 57 = .ok (.iconst 0, 1) := by decide +kernel
theorem d_MD_unlike_58 : decode c_MD_unlike 58 = .ok (.istore 6, 2) := by decide +kernel
theorem d_MD_unlike_60 : decode c_MD_unlike 60 = .ok (.iconst 0, 1) := by decide +kernel
theorem d_MD_unlike_61 : decode c_MD_unlike 61 = .ok (.istore 7, 2) := by decide +kernel
theorem d_MD_unlike_63 : decode c_MD_unlike 63 = .ok (.iload 7, 2) := by decide +kernel
theorem d_MD_unlike_65 : decode c_MD_unlike 65 = .ok (.iload 5, 2) := by decide +kernel
theorem d_MD_unlike_67 : decode c_MD_unlike 67 = .ok (.if_icmp .ge 98, 3) := by decide +kernel
theorem d_MD_unlike_70 : decode c_MD_unlike 70 = .ok (.iload 6, 2) := by decide +kernel
theorem d_MD_unlike_72 : decode c_MD_unlike 72 = .ok (.ifCond .eq 93, 3) := by decide +kernel
theorem d_MD_unlike_75 : decode c_MD_unlike 75 = .ok (.aload_n 0, 1) := by decide +kernel
theorem d_MD_unlike_76 : decode c_MD_unlike 76 = .ok (.iload 7, 2) := by decide +kernel
theorem d_MD_unlike_78 : decode c_MD_unlike 78 = .ok (.iload_n 1, 1) := by decide +kernel
theorem d_MD_unlike_79 : decode c_MD_unlike 79 = .ok (.iload_n 2, 1) := by decide +kernel
theorem d_MD_unlike_80 : decode c_MD_unlike 80 = .ok (.invokevirtual 159, 3) := by decide +kernel
theorem d_MD_unlike_83 : decode c_MD_unlike 83 = .ok (.ifCond .eq 34, 3) := by decide +kernel
theorem d_MD_unlike_86 : decode c_MD_unlike 86 = .ok (.iload_n 3, 1) := by decide +kernel
theorem d_MD_unlike_87 : decode c_MD_unlike 87 = .ok (.iconst 1, 1) := by decide +kernel
theorem d_MD_unlike_88 : decode c_MD_unlike 88 = .ok (.if_icmp .ne 25, 3) := by decide +kernel
theorem d_MD_unlike_91 : decode c_MD_unlike 91 = .ok (.aload_n 0, 1) := by decide +kernel
theorem d_MD_unlike_92 : decode c_MD_unlike 92 = .ok (.getfield 13, 3) := by decide +kernel
theorem d_MD_unlike_95 : decode c_MD_unlike 95 = .ok (.bipush 10, 2) := by decide +kernel
theorem d_MD_unlike_97 : decode c_MD_unlike 97 = .ok (.iload 7, 2) := by decide +kernel
theorem d_MD_unlike_99 : decode c_MD_unlike 99 = .ok (.imul, 1) := by decide +kernel
theorem d_MD_unlike_100 : decode c_MD_unlike 100 = .ok (.iaload, 1) := by decide +kernel
theorem d_MD_unlike_101 : decode c_MD_unlike 101 = .ok (.aload_n 0, 1) := by decide +kernel
theorem d_MD_unlike_102 : decode c_MD_unlike 102 = .ok (.getfield 13, 3) := by decide +kernel
theorem d_MD_unlike_105 : decode c_MD_unlike 105 = .ok (.bipush 10, 2) := by decide +kernel
theorem d_MD_unlike_107 : decode c_MD_unlike 107 = .ok (.iload_n 1, 1) := by decide +kernel
theorem d_MD_unlike_108 : decode c_MD_unlike 108 = .ok (.imul, 1) := by decide +kernel
theorem d_MD_unlike_109 : decode c_MD_unlike 109 = .ok (.iaload, 1) := by decide +kernel
theorem d_MD_unlike_110 : decode c_MD_unlike 110 = .ok (.if_icmp .ne 7, 3) := by decide +kernel
theorem d_MD_unlike_113 : decode c_MD_unlike 113 = .ok (.iconst 1, 1) := by decide +kernel
theorem d_MD_unlike_114 : decode c_MD_unlike 114 = .ok (.goto 4, 3) := by decide +kernel
theorem d_MD_unlike_117 : decode c_MD_unlike 117 = .ok (.iconst 0, 1) := by decide +kernel
theorem d_MD_unlike_118 : decode c_MD_unlike 118 = .ok (.istore 8, 2) := by decide +kernel
theorem d_MD_unlike_120 : decode c_MD_unlike 120 = .ok (.iload 8, 2) := by decide +kernel
theorem d_MD_unlike_122 : decode c_MD_unlike 122 = .ok (.ifCond .eq 30, 3) := by decide +kernel
theorem d_MD_unlike_125 : decode c_MD_unlike 125 = .ok (.aload_n 0, 1) := by decide +kernel
theorem d_MD_unlike_126 : decode c_MD_unlike 126 = .ok (.getfield 13, 3) := by decide +kernel
theorem d_MD_unlike_129 : decode c_MD_unlike 129 = .ok (.bipush 10, 2) := by decide +kernel
theorem d_MD_unlike_131 : decode c_MD_unlike 131 = .ok (.iload 7, 2) := by decide +kernel
theorem d_MD_unlike_133 : decode c_MD_unlike 133 = .ok (.imul, 1) := by decide +kernel
theorem d_MD_unlike_134 : decode c_MD_unlike 134 = .ok (.iload_n 3, 1) := by decide +kernel
theorem d_MD_unlike_135 : decode c_MD_unlike 135 = .ok (.iadd, 1) := by decide +kernel
theorem d_MD_unlike_136 : decode c_MD_unlike 136 = .ok (.iaload, 1) := by decide +kernel
theorem d_MD_unlike_137 : decode c_MD_unlike 137 = .ok (.aload_n 0, 1) := by decide +kernel
theorem d_MD_unlike_138 : decode c_MD_unlike 138 = .ok (.getfield 13, 3) := by decide +kernel
theorem d_MD_unlike_141 : decode c_MD_unlike 141 = .ok (.bipush 10, 2) := by decide +kernel
theorem d_MD_unlike_143 : decode c_MD_unlike 143 = .ok (.iload 5, 2) := by decide +kernel
theorem d_MD_unlike_145 : decode c_MD_unlike 145 = .ok (.imul, 1) := by decide +kernel
theorem d_MD_unlike_146 : decode c_MD_unlike 146 = .ok (.iload_n 3, 1) := by decide +kernel
theorem d_MD_unlike_147 : decode c_MD_unlike 147 = .ok (.iadd, 1) := by decide +kernel
theorem d_MD_unlike_148 : decode c_MD_unlike 148 = .ok (.iaload, 1) := by decide +kernel
theorem d_MD_unlike_149 : decode c_MD_unlike 149 = .ok (.if_icmp .eq 7, 3) := by decide +kernel
theorem d_MD_unlike_152 : decode c_MD_unlike 152 = .ok (.iconst 1, 1) := by decide +kernel
theorem d_MD_unlike_153 : decode c_MD_unlike 153 = .ok (.goto 4, 3) := by decide +kernel
theorem d_MD_unlike_156 : decode c_MD_unlike 156 = .ok (.iconst 0, 1) := by decide +kernel
theorem d_MD_unlike_157 : decode c_MD_unlike 157 = .ok (.istore 6, 2) := by decide +kernel
theorem d_MD_unlike_159 : decode c_MD_unlike 159 = .ok (.iinc 7 1, 3) := by decide +kernel
theorem d_MD_unlike_162 : decode c_MD_unlike 162 = .ok (.goto (-99), 3) := by decide +kernel
theorem d_MD_unlike_165 : decode c_MD_unlike 165 = .ok (.iload 4, 2) := by decide +kernel
theorem d_MD_unlike_167 : decode c_MD_unlike 167 = .ok (.iload 6, 2) := by decide +kernel
theorem d_MD_unlike_169 : decode c_MD_unlike 169 = .ok (.ifCond .eq 7, 3) := by decide +kernel
theorem d_MD_unlike_172 : decode c_MD_unlike 172 = .ok (.iconst 1, 1) := by decide +kernel
theorem d_MD_unlike_173 : decode c_MD_unlike 173 = .ok (.goto 4, 3) := by decide +kernel
theorem d_MD_unlike_176 : decode c_MD_unlike 176 = .ok (.iconst 0, 1) := by decide +kernel
theorem d_MD_unlike_177 : decode c_MD_unlike 177 = .ok (.iadd, 1) := by decide +kernel
theorem d_MD_unlike_178 : decode c_MD_unlike 178 = .ok (.istore 4, 2) := by decide +kernel
theorem d_MD_unlike_180 : decode c_MD_unlike 180 = .ok (.iinc 5 1, 3) := by decide +kernel
theorem d_MD_unlike_183 : decode c_MD_unlike 183 = .ok (.goto (-177), 3) := by decide +kernel
theorem d_MD_unlike_186 : decode c_MD_unlike 186 = .ok (.iload 4, 2) := by decide +kernel
theorem d_MD_unlike_188 : decode c_MD_unlike 188 = .ok (.ireturn, 1) := by decide +kernel
theorem d_MD_others_0 : decode c_MD_others 0 = .ok (.iconst 0, 1) := by decide +kernel
theorem d_MD_others_1 : decode c_MD_others 1 = .ok (.istore_n 3, 1) := by decide +kernel
theorem d_MD_others_2 : decode c_MD_others 2 = .ok (.iconst 0, 1) := by decide +kernel
theorem d_MD_others_3 : decode c_MD_others 3 = .ok (.istore 4, 2) := by decide +kernel
theorem d_MD_others_5 : decode c_MD_others 5 = .ok (.iload 4, 2) := by decide +kernel
theorem d_MD_others_7 : decode c_MD_others 7 = .ok (.aload_n 0, 1) := by decide +kernel
theorem d_MD_others_8 : decode c_MD_others 8 = .ok (.getfield 83, 3) := by decide +kernel
theorem d_MD_others_11 : decode c_MD_others 11 = .ok (.if_icmp .ge 46, 3) := by decide +kernel
theorem d_MD_others_14 : decode c_MD_others 14 = .ok (.iload_n 3, 1) := by decide +kernel
theorem d_MD_others_15 : decode c_MD_others 15 = .ok (.iload 4, 2) := by decide +kernel
theorem d_MD_others_17 : decode c_MD_others 17 = .ok (.iload_n 1, 1) := by decide +kernel
theorem d_MD_others_18 : decode c_MD_others 18 = .ok (.if_icmp .eq 30, 3) := by decide +kernel
theorem d_MD_others_21 : decode c_MD_others 21 = .ok (.aload_n 0, 1) := by decide +kernel
theorem d_MD_others_22 : decode c_MD_others 22 = .ok (.getfield 16, 3) := by decide +kernel
theorem d_MD_others_25 : decode c_MD_others 25 = .ok (.iload 4, 2) := by decide +kernel
theorem d_MD_others_27 : decode c_MD_others 27 = .ok (.iaload, 1) := by decide +kernel
theorem d_MD_others_28 : decode c_MD_others 28 = .ok (.iload_n 2, 1) := by decide +kernel
theorem d_MD_others_29 : decode c_MD_others 29 = .ok (.if_icmp .ne 19, 3) := by decide +kernel
theorem d_MD_others_32 : decode c_MD_others 32 = .ok (.aload_n 0, 1) := by decide +kernel
theorem d_MD_others_33 : decode c_MD_others 33 = .ok (.getfield 13, 3) := by decide +kernel
theorem d_MD_others_36 : decode c_MD_others 36 = .ok (.bipush 10, 2) := by decide +kernel
theorem d_MD_others_38 : decode c_MD_others 38 = .ok (.iload 4, 2) := by decide +kernel
theorem d_MD_others_40 : decode c_MD_others 40 = .ok (.imul, 1) := by decide +kernel
theorem d_MD_others_41 : decode c_MD_others 41 = .ok (.bipush 6, 2) := by decide +kernel
theorem d_MD_others_43 : decode c_MD_others 43 = .ok (.iadd, 1) := by decide +kernel
theorem d_MD_others_44 : decode c_MD_others 44 = .ok (.iaload, 1) := by decide +kernel
theorem d_MD_others_45 : decode c_MD_others 45 = .ok (.goto 4, 3) := by decide +kernel
theorem d_MD_others_48 : decode c_MD_others 48 = .ok (.iconst 0, 1) := by decide +kernel
theorem d_MD_others_49 : decode c_MD_others 49 = .ok (.iadd, 1) := by decide +kernel
theorem d_MD_others_50 : decode c_MD_others 50 = .ok (.istore_n 3, 1) := by decide +kernel
theorem d_MD_others_51 : decode c_MD_others 51 = .ok (.iinc 4 1, 3) := by decide +kernel
theorem d_MD_others_54 : decode c_MD_others 54 = .ok (.goto (-49), 3) := by decide +kernel
theorem d_MD_others_57 : decode c_MD_others 57 = .ok (.iload_n 3, 1) := by decide +kernel
theorem d_MD_others_58 : decode c_MD_others 58 = .ok (.ireturn, 1) := by decide +kernel
theorem d_MD_meets_0 : decode c_MD_meets 0 = .ok (.iconst 0, 1) := by decide +kernel
theorem d_MD_meets_1 : decode c_MD_meets 1 = .ok (.istore 4, 2) := by decide +kernel
theorem d_MD_meets_3 : decode c_MD_meets 3 = .ok (.iconst 0, 1) := by decide +kernel
theorem d_MD_meets_4 : decode c_MD_meets 4 = .ok (.istore 5, 2) := by decide +kernel
theorem d_MD_meets_6 : decode c_MD_meets 6 = .ok (.iload 5, 2) := by decide +kernel
theorem d_MD_meets_8 : decode c_MD_meets 8 = .ok (.aload_n 0, 1) := by decide +kernel
theorem d_MD_meets_9 : decode c_MD_meets 9 = .ok (.getfield 83, 3) := by decide +kernel
theorem d_MD_meets_12 : decode c_MD_meets 12 = .ok (.if_icmp .ge 55, 3) := by decide +kernel
theorem d_MD_meets_15 : decode c_MD_meets 15 = .ok (.iload 4, 2) := by decide +kernel
theorem d_MD_meets_17 : decode c_MD_meets 17 = .ok (.ifCond .ne 37, 3) := by decide +kernel
theorem d_MD_meets_20 : decode c_MD_meets 20 = .ok (.iload 5, 2) := by decide +kernel
theorem d_MD_meets_22 : decode c_MD_meets 22 = .ok (.iload_n 1, 1) := by decide +kernel
theorem d_MD_meets_23 : decode c_MD_meets 23 = .ok (.if_icmp .eq 35, 3) := by decide +kernel
theorem d_MD_meets_26 : decode c_MD_meets 26 = .ok (.aload_n 0, 1) := by decide +kernel
theorem d_MD_meets_27 : decode c_MD_meets 27 = .ok (.getfield 16, 3) := by decide +kernel
theorem d_MD_meets_30 : decode c_MD_meets 30 = .ok (.iload 5, 2) := by decide +kernel
theorem d_MD_meets_32 : decode c_MD_meets 32 = .ok (.iaload, 1) := by decide +kernel
theorem d_MD_meets_33 : decode c_MD_meets 33 = .ok (.iload_n 2, 1) := by decide +kernel
theorem d_MD_meets_34 : decode c_MD_meets 34 = .ok (.if_icmp .ne 24, 3) := by decide +kernel
theorem d_MD_meets_37 : decode c_MD_meets 37 = .ok (.aload_n 0, 1) := by decide +kernel
theorem d_MD_meets_38 : decode c_MD_meets 38 = .ok (.getfield 13, 3) := by decide +kernel
theorem d_MD_meets_41 : decode c_MD_meets 41 = .ok (.bipush 10, 2) := by decide +kernel
theorem d_MD_meets_43 : decode c_MD_meets 43 = .ok (.iload 5, 2) := by decide +kernel
theorem d_MD_meets_45 : decode c_MD_meets 45 = .ok (.imul, 1) := by decide +kernel
theorem d_MD_meets_46 : decode c_MD_meets 46 = .ok (.bipush 7, 2) := by decide +kernel
theorem d_MD_meets_48 : decode c_MD_meets 48 = .ok (.iadd, 1) := by decide +kernel
theorem d_MD_meets_49 : decode c_MD_meets 49 = .ok (.iaload, 1) := by decide +kernel
theorem d_MD_meets_50 : decode c_MD_meets 50 = .ok (.iload_n 3, 1) := by decide +kernel
theorem d_MD_meets_51 : decode c_MD_meets 51 = .ok (.if_icmp .ne 7, 3) := by decide +kernel
theorem d_MD_meets_54 : decode c_MD_meets 54 = .ok (.iconst 1, 1) := by decide +kernel
theorem d_MD_meets_55 : decode c_MD_meets 55 = .ok (.goto 4, 3) := by decide +kernel
theorem d_MD_meets_58 : decode c_MD_meets 58 = .ok (.iconst 0, 1) := by decide +kernel
theorem d_MD_meets_59 : decode c_MD_meets 59 = .ok (.istore 4, 2) := by decide +kernel
theorem d_MD_meets_61 : decode c_MD_meets 61 = .ok (.iinc 5 1, 3) := by decide +kernel
theorem d_MD_meets_64 : decode c_MD_meets 64 = .ok (.goto (-58), 3) := by decide +kernel
theorem d_MD_meets_67 : decode c_MD_meets 67 = .ok (.iload 4, 2) := by decide +kernel
theorem d_MD_meets_69 : decode c_MD_meets 69 = .ok (.ireturn, 1) := by decide +kernel
theorem d_MD_fits_0 : decode c_MD_fits 0 = .ok (.aload_n 0, 1) := by decide +kernel
theorem d_MD_fits_1 : decode c_MD_fits 1 = .ok (.getfield 13, 3) := by decide +kernel
theorem d_MD_fits_4 : decode c_MD_fits 4 = .ok (.bipush 10, 2) := by decide +kernel
theorem d_MD_fits_6 : decode c_MD_fits 6 = .ok (.iload_n 1, 1) := by decide +kernel
theorem d_MD_fits_7 : decode c_MD_fits 7 = .ok (.imul, 1) := by decide +kernel
theorem d_MD_fits_8 : decode c_MD_fits 8 = .ok (.iconst 3, 1) := by decide +kernel
theorem d_MD_fits_9 : decode c_MD_fits 9 = .ok (.iadd, 1) := by decide +kernel
theorem d_MD_fits_10 : decode c_MD_fits 10 = .ok (.iaload, 1) := by decide +kernel
theorem d_MD_fits_11 : decode c_MD_fits 11 = .ok (.istore 4, 2) := by decide +kernel
theorem d_MD_fits_13 : decode c_MD_fits 13 = .ok (.aload_n 0, 1) := by decide +kernel
theorem d_MD_fits_14 : decode c_MD_fits 14 = .ok (.getfield 13, 3) := by decide +kernel
theorem d_MD_fits_17 : decode c_MD_fits 17 = .ok (.bipush 10, 2) := by decide +kernel
theorem d_MD_fits_19 : decode c_MD_fits 19 = .ok (.iload_n 1, 1) := by decide +kernel
theorem d_MD_fits_20 : decode c_MD_fits 20 = .ok (.imul, 1) := by decide +kernel
theorem d_MD_fits_21 : decode c_MD_fits 21 = .ok (.iconst 4, 1) := by decide +kernel
theorem d_MD_fits_22 : decode c_MD_fits 22 = .ok (.iadd, 1) := by decide +kernel
theorem d_MD_fits_23 : decode c_MD_fits 23 = .ok (.iaload, 1) := by decide +kernel
theorem d_MD_fits_24 : decode c_MD_fits 24 = .ok (.istore 5, 2) := by decide +kernel
theorem d_MD_fits_26 : decode c_MD_fits 26 = .ok (.aload_n 0, 1) := by decide +kernel
theorem d_MD_fits_27 : decode c_MD_fits 27 = .ok (.getfield 13, 3) := by decide +kernel
theorem d_MD_fits_30 : decode c_MD_fits 30 = .ok (.bipush 10, 2) := by decide +kernel
theorem d_MD_fits_32 : decode c_MD_fits 32 = .ok (.iload_n 1, 1) := by decide +kernel
theorem d_MD_fits_33 : decode c_MD_fits 33 = .ok (.imul, 1) := by decide +kernel
theorem d_MD_fits_34 : decode c_MD_fits 34 = .ok (.iconst 5, 1) := by decide +kernel
theorem d_MD_fits_35 : decode c_MD_fits 35 = .ok (.iadd, 1) := by decide +kernel
theorem d_MD_fits_36 : decode c_MD_fits 36 = .ok (.iaload, 1) := by decide +kernel
theorem d_MD_fits_37 : decode c_MD_fits 37 = .ok (.istore 6, 2) := by decide +kernel
theorem d_MD_fits_39 : decode c_MD_fits 39 = .ok (.iload_n 3, 1) := by decide +kernel
theorem d_MD_fits_40 : decode c_MD_fits 40 = .ok (.iconst 2, 1) := by decide +kernel
theorem d_MD_fits_41 : decode c_MD_fits 41 = .ok (.if_icmp .ge 8, 3) := by decide +kernel
theorem d_MD_fits_44 : decode c_MD_fits 44 = .ok (.iload 4, 2) := by decide +kernel
theorem d_MD_fits_46 : decode c_MD_fits 46 = .ok (.goto 15, 3) := by decide +kernel
theorem d_MD_fits_49 : decode c_MD_fits 49 = .ok (.iload_n 3, 1) := by decide +kernel
theorem d_MD_fits_50 : decode c_MD_fits 50 = .ok (.iconst 4, 1) := by decide +kernel
theorem d_MD_fits_51 : decode c_MD_fits 51 = .ok (.if_icmp .ge 8, 3) := by decide +kernel
theorem d_MD_fits_54 : decode c_MD_fits 54 = .ok (.iload 5, 2) := by decide +kernel
theorem d_MD_fits_56 : decode c_MD_fits 56 = .ok (.goto 5, 3) := by decide +kernel
theorem d_MD_fits_59 : decode c_MD_fits 59 = .ok (.iload 6, 2) := by decide +kernel
theorem d_MD_fits_61 : decode c_MD_fits 61 = .ok (.istore 7, 2) := by decide +kernel
theorem d_MD_fits_63 : decode c_MD_fits 63 = .ok (.iload_n 3, 1) := by decide +kernel
theorem d_MD_fits_64 : decode c_MD_fits 64 = .ok (.ifCond .eq 8, 3) := by decide +kernel
theorem d_MD_fits_67 : decode c_MD_fits 67 = .ok (.iload_n 3, 1) := by decide +kernel
theorem d_MD_fits_68 : decode c_MD_fits 68 = .ok (.iconst 5, 1) := by decide +kernel
theorem d_MD_fits_69 : decode c_MD_fits 69 = .ok (.if_icmp .ne 8, 3) := by decide +kernel
theorem d_MD_fits_72 : decode c_MD_fits 72 = .ok (.iload 5, 2) := by decide +kernel
theorem d_MD_fits_74 : decode c_MD_fits 74 = .ok (.goto 20, 3) := by decide +kernel
theorem d_MD_fits_77 : decode c_MD_fits 77 = .ok (.iload_n 3, 1) := by decide +kernel
theorem d_MD_fits_78 : decode c_MD_fits 78 = .ok (.iconst 1, 1) := by decide +kernel
theorem d_MD_fits_79 : decode c_MD_fits 79 = .ok (.if_icmp .eq 8, 3) := by decide +kernel
theorem d_MD_fits_82 : decode c_MD_fits 82 = .ok (.iload_n 3, 1) := by decide +kernel
theorem d_MD_fits_83 : decode c_MD_fits 83 = .ok (.iconst 3, 1) := by decide +kernel
theorem d_MD_fits_84 : decode c_MD_fits 84 = .ok (.if_icmp .ne 8, 3) := by decide +kernel
theorem d_MD_fits_87 : decode c_MD_fits 87 = .ok (.iload 6, 2) := by decide +kernel
theorem d_MD_fits_89 : decode c_MD_fits 89 = .ok (.goto 5, 3) := by decide +kernel
theorem d_MD_fits_92 : decode c_MD_fits 92 = .ok (.iload 4, 2) := by decide +kernel
theorem d_MD_fits_94 : decode c_MD_fits 94 = .ok (.istore 8, 2) := by decide +kernel
theorem d_MD_fits_96 : decode c_MD_fits 96 = .ok (.iload 7, 2) := by decide +kernel
theorem d_MD_fits_98 : decode c_MD_fits 98 = .ok (.aload_n 0, 1) := by decide +kernel
theorem d_MD_fits_99 : decode c_MD_fits 99 = .ok (.getfield 7, 3) := by decide +kernel
theorem d_MD_fits_102 : decode c_MD_fits 102 = .ok (.iconst 5, 1) := by decide +kernel
theorem d_MD_fits_103 : decode c_MD_fits 103 = .ok (.iload_n 2, 1) := by decide +kernel
theorem d_MD_fits_104 : decode c_MD_fits 104 = .ok (.imul, 1) := by decide +kernel
theorem d_MD_fits_105 : decode c_MD_fits 105 = .ok (.iaload, 1) := by decide +kernel
theorem d_MD_fits_106 : decode c_MD_fits 106 = .ok (.if_icmp .gt 49, 3) := by decide +kernel
theorem d_MD_fits_109 : decode c_MD_fits 109 = .ok (.iload 8, 2) := by decide +kernel
theorem d_MD_fits_111 : decode c_MD_fits 111 = .ok (.aload_n 0, 1) := by decide +kernel
theorem d_MD_fits_112 : decode c_MD_fits 112 = .ok (.getfield 7, 3) := by decide +kernel
theorem d_MD_fits_115 : decode c_MD_fits 115 = .ok (.iconst 5, 1) := by decide +kernel
theorem d_MD_fits_116 : decode c_MD_fits 116 = .ok (.iload_n 2, 1) := by decide +kernel
theorem d_MD_fits_117 : decode c_MD_fits 117 = .ok (.imul, 1) := by decide +kernel
theorem d_MD_fits_118 : decode c_MD_fits 118 = .ok (.iconst 1, 1) := by decide +kernel
theorem d_MD_fits_119 : decode c_MD_fits 119 = .ok (.iadd, 1) := by decide +kernel
theorem d_MD_fits_120 : decode c_MD_fits 120 = .ok (.iaload, 1) := by decide +kernel
theorem d_MD_fits_121 : decode c_MD_fits 121 = .ok (.if_icmp .gt 34, 3) := by decide +kernel
theorem d_MD_fits_124 : decode c_MD_fits 124 = .ok (.iload 4, 2) := by decide +kernel
theorem d_MD_fits_126 : decode c_MD_fits 126 = .ok (.iload 5, 2) := by decide +kernel
theorem d_MD_fits_128 : decode c_MD_fits 128 = .ok (.iadd, 1) := by decide +kernel
theorem d_MD_fits_129 : decode c_MD_fits 129 = .ok (.iload 6, 2) := by decide +kernel
theorem d_MD_fits_131 : decode c_MD_fits 131 = .ok (.iadd, 1) := by decide +kernel
theorem d_MD_fits_132 : decode c_MD_fits 132 = .ok (.iload 7, 2) := by decide +kernel
theorem d_MD_fits_134 : decode c_MD_fits 134 = .ok (.isub, 1) := by decide +kernel
theorem d_MD_fits_135 : decode c_MD_fits 135 = .ok (.iload 8, 2) := by decide +kernel
theorem d_MD_fits_137 : decode c_MD_fits 137 = .ok (.isub, 1) := by decide +kernel
theorem d_MD_fits_138 : decode c_MD_fits 138 = .ok (.aload_n 0, 1) := by decide +kernel
theorem d_MD_fits_139 : decode c_MD_fits 139 = .ok (.getfield 7, 3) := by decide +kernel
theorem d_MD_fits_142 : decode c_MD_fits 142 = .ok (.iconst 5, 1) := by decide +kernel
theorem d_MD_fits_143 : decode c_MD_fits 143 = .ok (.iload_n 2, 1) := by decide +kernel
theorem d_MD_fits_144 : decode c_MD_fits 144 = .ok (.imul, 1) := by decide +kernel
theorem d_MD_fits_145 : decode c_MD_fits 145 = .ok (.iconst 2, 1) := by decide +kernel
theorem d_MD_fits_146 : decode c_MD_fits 146 = .ok (.iadd, 1) := by decide +kernel
theorem d_MD_fits_147 : decode c_MD_fits 147 = .ok (.iaload, 1) := by decide +kernel
theorem d_MD_fits_148 : decode c_MD_fits 148 = .ok (.if_icmp .gt 7, 3) := by decide +kernel
theorem d_MD_fits_151 : decode c_MD_fits 151 = .ok (.iconst 1, 1) := by decide +kernel
theorem d_MD_fits_152 : decode c_MD_fits 152 = .ok (.goto 4, 3) := by decide +kernel
theorem d_MD_fits_155 : decode c_MD_fits 155 = .ok (.iconst 0, 1) := by decide +kernel
theorem d_MD_fits_156 : decode c_MD_fits 156 = .ok (.ireturn, 1) := by decide +kernel
theorem d_MD_span_0 : decode c_MD_span 0 = .ok (.aload_n 0, 1) := by decide +kernel
theorem d_MD_span_1 : decode c_MD_span 1 = .ok (.getfield 13, 3) := by decide +kernel
theorem d_MD_span_4 : decode c_MD_span 4 = .ok (.bipush 10, 2) := by decide +kernel
theorem d_MD_span_6 : decode c_MD_span 6 = .ok (.iload_n 1, 1) := by decide +kernel
theorem d_MD_span_7 : decode c_MD_span 7 = .ok (.imul, 1) := by decide +kernel
theorem d_MD_span_8 : decode c_MD_span 8 = .ok (.bipush 9, 2) := by decide +kernel
theorem d_MD_span_10 : decode c_MD_span 10 = .ok (.iadd, 1) := by decide +kernel
theorem d_MD_span_11 : decode c_MD_span 11 = .ok (.iaload, 1) := by decide +kernel
theorem d_MD_span_12 : decode c_MD_span 12 = .ok (.istore_n 3, 1) := by decide +kernel
theorem d_MD_span_13 : decode c_MD_span 13 = .ok (.iload_n 3, 1) := by decide +kernel
theorem d_MD_span_14 : decode c_MD_span 14 = .ok (.istore 4, 2) := by decide +kernel
theorem d_MD_span_16 : decode c_MD_span 16 = .ok (.iconst 0, 1) := by decide +kernel
theorem d_MD_span_17 : decode c_MD_span 17 = .ok (.istore 5, 2) := by decide +kernel
theorem d_MD_span_19 : decode c_MD_span 19 = .ok (.iload 5, 2) := by decide +kernel
theorem d_MD_span_21 : decode c_MD_span 21 = .ok (.aload_n 0, 1) := by decide +kernel
theorem d_MD_span_22 : decode c_MD_span 22 = .ok (.getfield 83, 3) := by decide +kernel
theorem d_MD_span_25 : decode c_MD_span 25 = .ok (.if_icmp .ge 73, 3) := by decide +kernel
theorem d_MD_span_28 : decode c_MD_span 28 = .ok (.aload_n 0, 1) := by decide +kernel
theorem d_MD_span_29 : decode c_MD_span 29 = .ok (.getfield 13, 3) := by decide +kernel
theorem d_MD_span_32 : decode c_MD_span 32 = .ok (.bipush 10, 2) := by decide +kernel
theorem d_MD_span_34 : decode c_MD_span 34 = .ok (.iload 5, 2) := by decide +kernel
theorem d_MD_span_36 : decode c_MD_span 36 = .ok (.imul, 1) := by decide +kernel
theorem d_MD_span_37 : decode c_MD_span 37 = .ok (.bipush 9, 2) := by decide +kernel
theorem d_MD_span_39 : decode c_MD_span 39 = .ok (.iadd, 1) := by decide +kernel
theorem d_MD_span_40 : decode c_MD_span 40 = .ok (.iaload, 1) := by decide +kernel
theorem d_MD_span_41 : decode c_MD_span 41 = .ok (.istore 6, 2) := by decide +kernel
theorem d_MD_span_43 : decode c_MD_span 43 = .ok (.aload_n 0, 1) := by decide +kernel
theorem d_MD_span_44 : decode c_MD_span 44 = .ok (.iload 5, 2) := by decide +kernel
theorem d_MD_span_46 : decode c_MD_span 46 = .ok (.iload_n 1, 1) := by decide +kernel
theorem d_MD_span_47 : decode c_MD_span 47 = .ok (.iload_n 2, 1) := by decide +kernel
theorem d_MD_span_48 : decode c_MD_span 48 = .ok (.invokevirtual 159, 3) := by decide +kernel
theorem d_MD_span_51 : decode c_MD_span 51 = .ok (.istore 7, 2) := by decide +kernel
theorem d_MD_span_53 : decode c_MD_span 53 = .ok (.iload 7, 2) := by decide +kernel
theorem d_MD_span_55 : decode c_MD_span 55 = .ok (.ifCond .eq 14, 3) := by decide +kernel
theorem d_MD_span_58 : decode c_MD_span 58 = .ok (.iload 6, 2) := by decide +kernel
theorem d_MD_span_60 : decode c_MD_span 60 = .ok (.iload_n 3, 1) := by decide +kernel
theorem d_MD_span_61 : decode c_MD_span 61 = .ok (.if_icmp .ge 8, 3) := by decide +kernel
theorem d_MD_span_64 : decode c_MD_span 64 = .ok (.iload 6, 2) := by decide +kernel
theorem d_MD_span_66 : decode c_MD_span 66 = .ok (.goto 4, 3) := by decide +kernel
theorem d_MD_span_69 : decode c_MD_span 69 = .ok (.iload_n 3, 1) := by decide +kernel
theorem d_MD_span_70 : decode c_MD_span 70 = .ok (.istore_n 3, 1) := by decide +kernel
theorem d_MD_span_71 : decode c_MD_span 71 = .ok (.iload 7, 2) := by decide +kernel
theorem d_MD_span_73 : decode c_MD_span 73 = .ok (.ifCond .eq 15, 3) := by decide +kernel
theorem d_MD_span_76 : decode c_MD_span 76 = .ok (.iload 6, 2) := by decide +kernel
theorem d_MD_span_78 : decode c_MD_span 78 = .ok (.iload 4, 2) := by decide +kernel
theorem d_MD_span_80 : decode c_MD_span 80 = .ok (.if_icmp .le 8, 3) := by decide +kernel
theorem d_MD_span_83 : decode c_MD_span 83 = .ok (.iload 6, 2) := by decide +kernel
theorem d_MD_span_85 : decode c_MD_span 85 = .ok (.goto 5, 3) := by decide +kernel
theorem d_MD_span_88 : decode c_MD_span 88 = .ok (.iload 4, 2) := by decide +kernel
theorem d_MD_span_90 : decode c_MD_span 90 = .ok (.istore 4, 2) := by decide +kernel
theorem d_MD_span_92 : decode c_MD_span 92 = .ok (.iinc 5 1, 3) := by decide +kernel
theorem d_MD_span_95 : decode c_MD_span 95 = .ok (.goto (-76), 3) := by decide +kernel
theorem d_MD_span_98 : decode c_MD_span 98 = .ok (.iload 4, 2) := by decide +kernel
theorem d_MD_span_100 : decode c_MD_span 100 = .ok (.iload_n 3, 1) := by decide +kernel
theorem d_MD_span_101 : decode c_MD_span 101 = .ok (.isub, 1) := by decide +kernel
theorem d_MD_span_102 : decode c_MD_span 102 = .ok (.ireturn, 1) := by decide +kernel
theorem d_MD_many_0 : decode c_MD_many 0 = .ok (.iconst 0, 1) := by decide +kernel
theorem d_MD_many_1 : decode c_MD_many 1 = .ok (.istore_n 3, 1) := by decide +kernel
theorem d_MD_many_2 : decode c_MD_many 2 = .ok (.iconst 0, 1) := by decide +kernel
theorem d_MD_many_3 : decode c_MD_many 3 = .ok (.istore 4, 2) := by decide +kernel
theorem d_MD_many_5 : decode c_MD_many 5 = .ok (.iload 4, 2) := by decide +kernel
theorem d_MD_many_7 : decode c_MD_many 7 = .ok (.aload_n 0, 1) := by decide +kernel
theorem d_MD_many_8 : decode c_MD_many 8 = .ok (.getfield 83, 3) := by decide +kernel
theorem d_MD_many_11 : decode c_MD_many 11 = .ok (.if_icmp .ge 28, 3) := by decide +kernel
theorem d_MD_many_14 : decode c_MD_many 14 = .ok (.iload_n 3, 1) := by decide +kernel
theorem d_MD_many_15 : decode c_MD_many 15 = .ok (.aload_n 0, 1) := by decide +kernel
theorem d_MD_many_16 : decode c_MD_many 16 = .ok (.iload 4, 2) := by decide +kernel
theorem d_MD_many_18 : decode c_MD_many 18 = .ok (.iload_n 1, 1) := by decide +kernel
theorem d_MD_many_19 : decode c_MD_many 19 = .ok (.iload_n 2, 1) := by decide +kernel
theorem d_MD_many_20 : decode c_MD_many 20 = .ok (.invokevirtual 159, 3) := by decide +kernel
theorem d_MD_many_23 : decode c_MD_many 23 = .ok (.ifCond .eq 7, 3) := by decide +kernel
theorem d_MD_many_26 : decode c_MD_many 26 = .ok (.iconst 1, 1) := by decide +kernel
theorem d_MD_many_27 : decode c_MD_many 27 = .ok (.goto 4, 3) := by decide +kernel
theorem d_MD_many_30 : decode c_MD_many 30 = .ok (.iconst 0, 1) := by decide +kernel
theorem d_MD_many_31 : decode c_MD_many 31 = .ok (.iadd, 1) := by decide +kernel
theorem d_MD_many_32 : decode c_MD_many 32 = .ok (.istore_n 3, 1) := by decide +kernel
theorem d_MD_many_33 : decode c_MD_many 33 = .ok (.iinc 4 1, 3) := by decide +kernel
theorem d_MD_many_36 : decode c_MD_many 36 = .ok (.goto (-31), 3) := by decide +kernel
theorem d_MD_many_39 : decode c_MD_many 39 = .ok (.iload_n 3, 1) := by decide +kernel
theorem d_MD_many_40 : decode c_MD_many 40 = .ok (.ireturn, 1) := by decide +kernel
theorem d_MD_isSized_0 : decode c_MD_isSized 0 = .ok (.aload_n 0, 1) := by decide +kernel
theorem d_MD_isSized_1 : decode c_MD_isSized 1 = .ok (.iload_n 1, 1) := by decide +kernel
theorem d_MD_isSized_2 : decode c_MD_isSized 2 = .ok (.iload_n 2, 1) := by decide +kernel
theorem d_MD_isSized_3 : decode c_MD_isSized 3 = .ok (.iconst 0, 1) := by decide +kernel
theorem d_MD_isSized_4 : decode c_MD_isSized 4 = .ok (.invokevirtual 162, 3) := by decide +kernel
theorem d_MD_isSized_7 : decode c_MD_isSized 7 = .ok (.ifCond .ne 13, 3) := by decide +kernel
theorem d_MD_isSized_10 : decode c_MD_isSized 10 = .ok (.aload_n 0, 1) := by decide +kernel
theorem d_MD_isSized_11 : decode c_MD_isSized 11 = .ok (.iload_n 1, 1) := by decide +kernel
theorem d_MD_isSized_12 : decode c_MD_isSized 12 = .ok (.iload_n 2, 1) := by decide +kernel
theorem d_MD_isSized_13 : decode c_MD_isSized 13 = .ok (.iconst 2, 1) := by decide +kernel
theorem d_MD_isSized_14 : decode c_MD_isSized 14 = .ok (.invokevirtual 162, 3) := by decide +kernel
theorem d_MD_isSized_17 : decode c_MD_isSized 17 = .ok (.ifCond .eq 7, 3) := by decide +kernel
theorem d_MD_isSized_20 : decode c_MD_isSized 20 = .ok (.iconst 1, 1) := by decide +kernel
theorem d_MD_isSized_21 : decode c_MD_isSized 21 = .ok (.goto 4, 3) := by decide +kernel
theorem d_MD_isSized_24 : decode c_MD_isSized 24 = .ok (.iconst 0, 1) := by decide +kernel
theorem d_MD_isSized_25 : decode c_MD_isSized 25 = .ok (.istore 4, 2) := by decide +kernel
theorem d_MD_isSized_27 : decode c_MD_isSized 27 = .ok (.iconst 0, 1) := by decide +kernel
theorem d_MD_isSized_28 : decode c_MD_isSized 28 = .ok (.istore 5, 2) := by decide +kernel
theorem d_MD_isSized_30 : decode c_MD_isSized 30 = .ok (.iload 5, 2) := by decide +kernel
theorem d_MD_isSized_32 : decode c_MD_isSized 32 = .ok (.bipush 6, 2) := by decide +kernel
theorem d_MD_isSized_34 : decode c_MD_isSized 34 = .ok (.if_icmp .ge 37, 3) := by decide +kernel
theorem d_MD_isSized_37 : decode c_MD_isSized 37 = .ok (.iload_n 3, 1) := by decide +kernel
theorem d_MD_isSized_38 : decode c_MD_isSized 38 = .ok (.iconst 1, 1) := by decide +kernel
theorem d_MD_isSized_39 : decode c_MD_isSized 39 = .ok (.if_icmp .ne 32, 3) := by decide +kernel
theorem d_MD_isSized_42 : decode c_MD_isSized 42 = .ok (.iload 4, 2) := by decide +kernel
theorem d_MD_isSized_44 : decode c_MD_isSized 44 = .ok (.ifCond .ne 14, 3) := by decide +kernel
theorem d_MD_isSized_47 : decode c_MD_isSized 47 = .ok (.aload_n 0, 1) := by decide +kernel
theorem d_MD_isSized_48 : decode c_MD_isSized 48 = .ok (.iload_n 1, 1) := by decide +kernel
theorem d_MD_isSized_49 : decode c_MD_isSized 49 = .ok (.iload_n 2, 1) := by decide +kernel
theorem d_MD_isSized_50 : decode c_MD_isSized 50 = .ok (.iload 5, 2) := by decide +kernel
theorem d_MD_isSized_52 : decode c_MD_isSized 52 = .ok (.invokevirtual 162, 3) := by decide +kernel
theorem d_MD_isSized_55 : decode c_MD_isSized 55 = .ok (.ifCond .eq 7, 3) := by decide +kernel
theorem d_MD_isSized_58 : decode c_MD_isSized 58 = .ok (.iconst 1, 1) := by decide +kernel
theorem d_MD_isSized_59 : decode c_MD_isSized 59 = .ok (.goto 4, 3) := by decide +kernel
theorem d_MD_isSized_62 : decode c_MD_isSized 62 = .ok (.iconst 0, 1) := by decide +kernel
theorem d_MD_isSized_63 : decode c_MD_isSized 63 = .ok (.istore 4, 2) := by decide +kernel
theorem d_MD_isSized_65 : decode c_MD_isSized 65 = .ok (.iinc 5 1, 3) := by decide +kernel
theorem d_MD_isSized_68 : decode c_MD_isSized 68 = .ok (.goto (-38), 3) := by decide +kernel
theorem d_MD_isSized_71 : decode c_MD_isSized 71 = .ok (.iload 4, 2) := by decide +kernel
theorem d_MD_isSized_73 : decode c_MD_isSized 73 = .ok (.ireturn, 1) := by decide +kernel
theorem d_MD_ownRefuses_0 : decode c_MD_ownRefuses 0 = .ok (.aload_n 0, 1) := by decide +kernel
theorem d_MD_ownRefuses_1 : decode c_MD_ownRefuses 1 = .ok (.dup, 1) := by decide +kernel
theorem d_MD_ownRefuses_2 : decode c_MD_ownRefuses 2 = .ok (.getfield 165, 3) := by decide +kernel
theorem d_MD_ownRefuses_5 : decode c_MD_ownRefuses 5 = .ok (.aload_n 0, 1) := by decide +kernel
theorem d_MD_ownRefuses_6 : decode c_MD_ownRefuses 6 = .ok (.getfield 47, 3) := by decide +kernel
theorem d_MD_ownRefuses_9 : decode c_MD_ownRefuses 9 = .ok (.iload_n 1, 1) := by decide +kernel
theorem d_MD_ownRefuses_10 : decode c_MD_ownRefuses 10 = .ok (.iaload, 1) := by decide +kernel
theorem d_MD_ownRefuses_11 : decode c_MD_ownRefuses 11 = .ok (.iconst 3, 1) := by decide +kernel
theorem d_MD_ownRefuses_12 : decode c_MD_ownRefuses 12 = .ok (.if_icmp .ne 7, 3) := by decide +kernel
theorem d_MD_ownRefuses_15 : decode c_MD_ownRefuses 15 = .ok (.iconst 1, 1) := by decide +kernel
theorem d_MD_ownRefuses_16 : decode c_MD_ownRefuses 16 = .ok (.goto 4, 3) := by decide +kernel
theorem d_MD_ownRefuses_19 : decode c_MD_ownRefuses 19 = .ok (.iconst 0, 1) := by decide +kernel
theorem d_MD_ownRefuses_20 : decode c_MD_ownRefuses 20 = .ok (.iadd, 1) := by decide +kernel
theorem d_MD_ownRefuses_21 : decode c_MD_ownRefuses 21 = .ok (.putfield 165, 3) := by decide +kernel
theorem d_MD_ownRefuses_24 : decode c_MD_ownRefuses 24 = .ok (.aload_n 0, 1) := by decide +kernel
theorem d_MD_ownRefuses_25 : decode c_MD_ownRefuses 25 = .ok (.getfield 47, 3) := by decide +kernel
theorem d_MD_ownRefuses_28 : decode c_MD_ownRefuses 28 = .ok (.iload_n 1, 1) := by decide +kernel
theorem d_MD_ownRefuses_29 : decode c_MD_ownRefuses 29 = .ok (.iaload, 1) := by decide +kernel
theorem d_MD_ownRefuses_30 : decode c_MD_ownRefuses 30 = .ok (.iconst 1, 1) := by decide +kernel
theorem d_MD_ownRefuses_31 : decode c_MD_ownRefuses 31 = .ok (.if_icmp .eq 44, 3) := by decide +kernel
theorem d_MD_ownRefuses_34 : decode c_MD_ownRefuses 34 = .ok (.aload_n 0, 1) := by decide +kernel
theorem d_MD_ownRefuses_35 : decode c_MD_ownRefuses 35 = .ok (.getfield 47, 3) := by decide +kernel
theorem d_MD_ownRefuses_38 : decode c_MD_ownRefuses 38 = .ok (.iload_n 1, 1) := by decide +kernel
theorem d_MD_ownRefuses_39 : decode c_MD_ownRefuses 39 = .ok (.iaload, 1) := by decide +kernel
theorem d_MD_ownRefuses_40 : decode c_MD_ownRefuses 40 = .ok (.iconst 3, 1) := by decide +kernel
theorem d_MD_ownRefuses_41 : decode c_MD_ownRefuses 41 = .ok (.if_icmp .eq 34, 3) := by decide +kernel
theorem d_MD_ownRefuses_44 : decode c_MD_ownRefuses 44 = .ok (.aload_n 0, 1) := by decide +kernel
theorem d_MD_ownRefuses_45 : decode c_MD_ownRefuses 45 = .ok (.getfield 47, 3) := by decide +kernel
theorem d_MD_ownRefuses_48 : decode c_MD_ownRefuses 48 = .ok (.iload_n 1, 1) := by decide +kernel
theorem d_MD_ownRefuses_49 : decode c_MD_ownRefuses 49 = .ok (.iaload, 1) := by decide +kernel
theorem d_MD_ownRefuses_50 : decode c_MD_ownRefuses 50 = .ok (.iconst 2, 1) := by decide +kernel
theorem d_MD_ownRefuses_51 : decode c_MD_ownRefuses 51 = .ok (.if_icmp .ne 28, 3) := by decide +kernel
theorem d_MD_ownRefuses_54 : decode c_MD_ownRefuses 54 = .ok (.aload_n 0, 1) := by decide +kernel
theorem d_MD_ownRefuses_55 : decode c_MD_ownRefuses 55 = .ok (.getfield 13, 3) := by decide +kernel
theorem d_MD_ownRefuses_58 : decode c_MD_ownRefuses 58 = .ok (.bipush 10, 2) := by decide +kernel
theorem d_MD_ownRefuses_60 : decode c_MD_ownRefuses 60 = .ok (.iload_n 2, 1) := by decide +kernel
theorem d_MD_ownRefuses_61 : decode c_MD_ownRefuses 61 = .ok (.imul, 1) := by decide +kernel
theorem d_MD_ownRefuses_62 : decode c_MD_ownRefuses 62 = .ok (.bipush 6, 2) := by decide +kernel
theorem d_MD_ownRefuses_64 : decode c_MD_ownRefuses 64 = .ok (.iadd, 1) := by decide +kernel
theorem d_MD_ownRefuses_65 : decode c_MD_ownRefuses 65 = .ok (.iaload, 1) := by decide +kernel
theorem d_MD_ownRefuses_66 : decode c_MD_ownRefuses 66 = .ok (.aload_n 0, 1) := by decide +kernel
theorem d_MD_ownRefuses_67 : decode c_MD_ownRefuses 67 = .ok (.iload_n 2, 1) := by decide +kernel
theorem d_MD_ownRefuses_68 : decode c_MD_ownRefuses 68 = .ok (.iload_n 3, 1) := by decide +kernel
theorem d_MD_ownRefuses_69 : decode c_MD_ownRefuses 69 = .ok (.invokevirtual 168, 3) := by decide +kernel
theorem d_MD_ownRefuses_72 : decode c_MD_ownRefuses 72 = .ok (.if_icmp .le 7, 3) := by decide +kernel
theorem d_MD_ownRefuses_75 : decode c_MD_ownRefuses 75 = .ok (.iconst 1, 1) := by decide +kernel
theorem d_MD_ownRefuses_76 : decode c_MD_ownRefuses 76 = .ok (.goto 4, 3) := by decide +kernel
theorem d_MD_ownRefuses_79 : decode c_MD_ownRefuses 79 = .ok (.iconst 0, 1) := by decide +kernel
theorem d_MD_ownRefuses_80 : decode c_MD_ownRefuses 80 = .ok (.ireturn, 1) := by decide +kernel
theorem d_MD_refuses_0 : decode c_MD_refuses 0 = .ok (.aload_n 0, 1) := by decide +kernel
theorem d_MD_refuses_1 : decode c_MD_refuses 1 = .ok (.getfield 25, 3) := by decide +kernel
theorem d_MD_refuses_4 : decode c_MD_refuses 4 = .ok (.iload_n 1, 1) := by decide +kernel
theorem d_MD_refuses_5 : decode c_MD_refuses 5 = .ok (.iaload, 1) := by decide +kernel
theorem d_MD_refuses_6 : decode c_MD_refuses 6 = .ok (.istore 5, 2) := by decide +kernel
theorem d_MD_refuses_8 : decode c_MD_refuses 8 = .ok (.aload_n 0, 1) := by decide +kernel
theorem d_MD_refuses_9 : decode c_MD_refuses 9 = .ok (.getfield 28, 3) := by decide +kernel
theorem d_MD_refuses_12 : decode c_MD_refuses 12 = .ok (.iload_n 1, 1) := by decide +kernel
theorem d_MD_refuses_13 : decode c_MD_refuses 13 = .ok (.iaload, 1) := by decide +kernel
theorem d_MD_refuses_14 : decode c_MD_refuses 14 = .ok (.istore 6, 2) := by decide +kernel
theorem d_MD_refuses_16 : decode c_MD_refuses 16 = .ok (.aload_n 0, 1) := by decide +kernel
theorem d_MD_refuses_17 : decode c_MD_refuses 17 = .ok (.getfield 22, 3) := by decide +kernel
theorem d_MD_refuses_20 : decode c_MD_refuses 20 = .ok (.iload_n 1, 1) := by decide +kernel
theorem d_MD_refuses_21 : decode c_MD_refuses 21 = .ok (.iaload, 1) := by decide +kernel
theorem d_MD_refuses_22 : decode c_MD_refuses 22 = .ok (.tableswitch 291 0 9 #[54, 71, 112, 112, 112, 137, 193, 231, 248, 265], 54) := by decide +kernel
theorem d_MD_refuses_76 : decode c_MD_refuses 76 = .ok (.aload_n 0, 1) := by decide +kernel
theorem d_MD_refuses_77 : decode c_MD_refuses 77 = .ok (.iload_n 2, 1) := by decide +kernel
theorem d_MD_refuses_78 : decode c_MD_refuses 78 = .ok (.iload_n 3, 1) := by decide +kernel
theorem d_MD_refuses_79 : decode c_MD_refuses 79 = .ok (.iload 5, 2) := by decide +kernel
theorem d_MD_refuses_81 : decode c_MD_refuses 81 = .ok (.invokevirtual 171, 3) := by decide +kernel
theorem d_MD_refuses_84 : decode c_MD_refuses 84 = .ok (.ifCond .ne 7, 3) := by decide +kernel
theorem d_MD_refuses_87 : decode c_MD_refuses 87 = .ok (.iconst 1, 1) := by decide +kernel
theorem d_MD_refuses_88 : decode c_MD_refuses 88 = .ok (.goto 4, 3) := by decide +kernel
theorem d_MD_refuses_91 : decode c_MD_refuses 91 = .ok (.iconst 0, 1) := by decide +kernel
theorem d_MD_refuses_92 : decode c_MD_refuses 92 = .ok (.ireturn, 1) := by decide +kernel
theorem d_MD_refuses_93 : decode c_MD_refuses 93 = .ok (.aload_n 0, 1) := by decide +kernel
theorem d_MD_refuses_94 : decode c_MD_refuses 94 = .ok (.getfield 13, 3) := by decide +kernel
theorem d_MD_refuses_97 : decode c_MD_refuses 97 = .ok (.bipush 10, 2) := by decide +kernel
theorem d_MD_refuses_99 : decode c_MD_refuses 99 = .ok (.iload_n 2, 1) := by decide +kernel
theorem d_MD_refuses_100 : decode c_MD_refuses 100 = .ok (.imul, 1) := by decide +kernel
theorem d_MD_refuses_101 : decode c_MD_refuses 101 = .ok (.bipush 6, 2) := by decide +kernel
theorem d_MD_refuses_103 : decode c_MD_refuses 103 = .ok (.iadd, 1) := by decide +kernel
theorem d_MD_refuses_104 : decode c_MD_refuses 104 = .ok (.iaload, 1) := by decide +kernel
theorem d_MD_refuses_105 : decode c_MD_refuses 105 = .ok (.aload_n 0, 1) := by decide +kernel
theorem d_MD_refuses_106 : decode c_MD_refuses 106 = .ok (.iload_n 2, 1) := by decide +kernel
theorem d_MD_refuses_107 : decode c_MD_refuses 107 = .ok (.iload_n 3, 1) := by decide +kernel
theorem d_MD_refuses_108 : decode c_MD_refuses 108 = .ok (.invokevirtual 168, 3) := by decide +kernel
theorem d_MD_refuses_111 : decode c_MD_refuses 111 = .ok (.iadd, 1) := by decide +kernel
theorem d_MD_refuses_112 : decode c_MD_refuses 112 = .ok (.aload_n 0, 1) := by decide +kernel
theorem d_MD_refuses_113 : decode c_MD_refuses 113 = .ok (.getfield 7, 3) := by decide +kernel
theorem d_MD_refuses_116 : decode c_MD_refuses 116 = .ok (.iconst 5, 1) := by decide +kernel
theorem d_MD_refuses_117 : decode c_MD_refuses 117 = .ok (.iload_n 3, 1) := by decide +kernel
theorem d_MD_refuses_118 : decode c_MD_refuses 118 = .ok (.imul, 1) := by decide +kernel
theorem d_MD_refuses_119 : decode c_MD_refuses 119 = .ok (.iconst 3, 1) := by decide +kernel
theorem d_MD_refuses_120 : decode c_MD_refuses 120 = .ok (.iadd, 1) := by decide +kernel
theorem d_MD_refuses_121 : decode c_MD_refuses 121 = .ok (.iaload, 1) := by decide +kernel
theorem d_MD_refuses_122 : decode c_MD_refuses 122 = .ok (.iload 5, 2) := by decide +kernel
theorem d_MD_refuses_124 : decode c_MD_refuses 124 = .ok (.isub, 1) := by decide +kernel
theorem d_MD_refuses_125 : decode c_MD_refuses 125 = .ok (.if_icmp .le 7, 3) := by decide +kernel
theorem d_MD_refuses_128 : decode c_MD_refuses 128 = .ok (.iconst 1, 1) := by decide +kernel
theorem d_MD_refuses_129 : decode c_MD_refuses 129 = .ok (.goto 4, 3) := by decide +kernel
theorem d_MD_refuses_132 : decode c_MD_refuses 132 = .ok (.iconst 0, 1) := by decide +kernel
theorem d_MD_refuses_133 : decode c_MD_refuses 133 = .ok (.ireturn, 1) := by decide +kernel
theorem d_MD_refuses_134 : decode c_MD_refuses 134 = .ok (.aload_n 0, 1) := by decide +kernel
theorem d_MD_refuses_135 : decode c_MD_refuses 135 = .ok (.iload_n 2, 1) := by decide +kernel
theorem d_MD_refuses_136 : decode c_MD_refuses 136 = .ok (.iload_n 3, 1) := by decide +kernel
theorem d_MD_refuses_137 : decode c_MD_refuses 137 = .ok (.aload_n 0, 1) := by decide +kernel
theorem d_MD_refuses_138 : decode c_MD_refuses 138 = .ok (.getfield 22, 3) := by decide +kernel
theorem d_MD_refuses_141 : decode c_MD_refuses 141 = .ok (.iload_n 1, 1) := by decide +kernel
theorem d_MD_refuses_142 : decode c_MD_refuses 142 = .ok (.iaload, 1) := by decide +kernel
theorem d_MD_refuses_143 : decode c_MD_refuses 143 = .ok (.iconst 2, 1) := by decide +kernel
theorem d_MD_refuses_144 : decode c_MD_refuses 144 = .ok (.isub, 1) := by decide +kernel
theorem d_MD_refuses_145 : decode c_MD_refuses 145 = .ok (.invokevirtual 174, 3) := by decide +kernel
theorem d_MD_refuses_148 : decode c_MD_refuses 148 = .ok (.iload 5, 2) := by decide +kernel
theorem d_MD_refuses_150 : decode c_MD_refuses 150 = .ok (.if_icmp .le 7, 3) := by decide +kernel
theorem d_MD_refuses_153 : decode c_MD_refuses 153 = .ok (.iconst 1, 1) := by decide +kernel
theorem d_MD_refuses_154 : decode c_MD_refuses 154 = .ok (.goto 4, 3) := by decide +kernel
theorem d_MD_refuses_157 : decode c_MD_refuses 157 = .ok (.iconst 0, 1) := by decide +kernel
theorem d_MD_refuses_158 : decode c_MD_refuses 158 = .ok (.ireturn, 1) := by decide +kernel
theorem d_MD_refuses_159 : decode c_MD_refuses 159 = .ok (.aload_n 0, 1) := by decide +kernel
theorem d_MD_refuses_160 : decode c_MD_refuses 160 = .ok (.getfield 13, 3) := by decide +kernel
theorem d_MD_refuses_163 : decode c_MD_refuses 163 = .ok (.bipush 10, 2) := by decide +kernel
theorem d_MD_refuses_165 : decode c_MD_refuses 165 = .ok (.iload_n 2, 1) := by decide +kernel
theorem d_MD_refuses_166 : decode c_MD_refuses 166 = .ok (.imul, 1) := by decide +kernel
theorem d_MD_refuses_167 : decode c_MD_refuses 167 = .ok (.bipush 7, 2) := by decide +kernel
theorem d_MD_refuses_169 : decode c_MD_refuses 169 = .ok (.iadd, 1) := by decide +kernel
theorem d_MD_refuses_170 : decode c_MD_refuses 170 = .ok (.iaload, 1) := by decide +kernel
theorem d_MD_refuses_171 : decode c_MD_refuses 171 = .ok (.istore 7, 2) := by decide +kernel
theorem d_MD_refuses_173 : decode c_MD_refuses 173 = .ok (.iload 7, 2) := by decide +kernel
theorem d_MD_refuses_175 : decode c_MD_refuses 175 = .ok (.iload 5, 2) := by decide +kernel
theorem d_MD_refuses_177 : decode c_MD_refuses 177 = .ok (.if_icmp .ne 14, 3) := by decide +kernel
theorem d_MD_refuses_180 : decode c_MD_refuses 180 = .ok (.aload_n 0, 1) := by decide +kernel
theorem d_MD_refuses_181 : decode c_MD_refuses 181 = .ok (.iload_n 2, 1) := by decide +kernel
theorem d_MD_refuses_182 : decode c_MD_refuses 182 = .ok (.iload_n 3, 1) := by decide +kernel
theorem d_MD_refuses_183 : decode c_MD_refuses 183 = .ok (.iload 6, 2) := by decide +kernel
theorem d_MD_refuses_185 : decode c_MD_refuses 185 = .ok (.invokevirtual 178, 3) := by decide +kernel
theorem d_MD_refuses_188 : decode c_MD_refuses 188 = .ok (.ifCond .ne 21, 3) := by decide +kernel
theorem d_MD_refuses_191 : decode c_MD_refuses 191 = .ok (.iload 7, 2) := by decide +kernel
theorem d_MD_refuses_193 : decode c_MD_refuses 193 = .ok (.iload 6, 2) := by decide +kernel
theorem d_MD_refuses_195 : decode c_MD_refuses 195 = .ok (.if_icmp .ne 18, 3) := by decide +kernel
theorem d_MD_refuses_198 : decode c_MD_refuses 198 = .ok (.aload_n 0, 1) := by decide +kernel
theorem d_MD_refuses_199 : decode c_MD_refuses 199 = .ok (.iload_n 2, 1) := by decide +kernel
theorem d_MD_refuses_200 : decode c_MD_refuses 200 = .ok (.iload_n 3, 1) := by decide +kernel
theorem d_MD_refuses_201 : decode c_MD_refuses 201 = .ok (.iload 5, 2) := by decide +kernel
theorem d_MD_refuses_203 : decode c_MD_refuses 203 = .ok (.invokevirtual 178, 3) := by decide +kernel
theorem d_MD_refuses_206 : decode c_MD_refuses 206 = .ok (.ifCond .eq 7, 3) := by decide +kernel
theorem d_MD_refuses_209 : decode c_MD_refuses 209 = .ok (.iconst 1, 1) := by decide +kernel
theorem d_MD_refuses_210 : decode c_MD_refuses 210 = .ok (.goto 4, 3) := by decide +kernel
theorem d_MD_refuses_213 : decode c_MD_refuses 213 = .ok (.iconst 0, 1) := by decide +kernel
theorem d_MD_refuses_214 : decode c_MD_refuses 214 = .ok (.ireturn, 1) := by decide +kernel
theorem d_MD_refuses_215 : decode c_MD_refuses 215 = .ok (.aload_n 0, 1) := by decide +kernel
theorem d_MD_refuses_216 : decode c_MD_refuses 216 = .ok (.getfield 13, 3) := by decide +kernel
theorem d_MD_refuses_219 : decode c_MD_refuses 219 = .ok (.bipush 10, 2) := by decide +kernel
theorem d_MD_refuses_221 : decode c_MD_refuses 221 = .ok (.iload_n 2, 1) := by decide +kernel
theorem d_MD_refuses_222 : decode c_MD_refuses 222 = .ok (.imul, 1) := by decide +kernel
theorem d_MD_refuses_223 : decode c_MD_refuses 223 = .ok (.bipush 8, 2) := by decide +kernel
theorem d_MD_refuses_225 : decode c_MD_refuses 225 = .ok (.iadd, 1) := by decide +kernel
theorem d_MD_refuses_226 : decode c_MD_refuses 226 = .ok (.iaload, 1) := by decide +kernel
theorem d_MD_refuses_227 : decode c_MD_refuses 227 = .ok (.iload 5, 2) := by decide +kernel
theorem d_MD_refuses_229 : decode c_MD_refuses 229 = .ok (.if_icmp .ne 22, 3) := by decide +kernel
theorem d_MD_refuses_232 : decode c_MD_refuses 232 = .ok (.aload_n 0, 1) := by decide +kernel
theorem d_MD_refuses_233 : decode c_MD_refuses 233 = .ok (.getfield 7, 3) := by decide +kernel
theorem d_MD_refuses_236 : decode c_MD_refuses 236 = .ok (.iconst 5, 1) := by decide +kernel
theorem d_MD_refuses_237 : decode c_MD_refuses 237 = .ok (.iload_n 3, 1) := by decide +kernel
theorem d_MD_refuses_238 : decode c_MD_refuses 238 = .ok (.imul, 1) := by decide +kernel
theorem d_MD_refuses_239 : decode c_MD_refuses 239 = .ok (.iconst 4, 1) := by decide +kernel
theorem d_MD_refuses_240 : decode c_MD_refuses 240 = .ok (.iadd, 1) := by decide +kernel
theorem d_MD_refuses_241 : decode c_MD_refuses 241 = .ok (.iaload, 1) := by decide +kernel
theorem d_MD_refuses_242 : decode c_MD_refuses 242 = .ok (.iload 6, 2) := by decide +kernel
theorem d_MD_refuses_244 : decode c_MD_refuses 244 = .ok (.if_icmp .eq 7, 3) := by decide +kernel
theorem d_MD_refuses_247 : decode c_MD_refuses 247 = .ok (.iconst 1, 1) := by decide +kernel
theorem d_MD_refuses_248 : decode c_MD_refuses 248 = .ok (.goto 4, 3) := by decide +kernel
theorem d_MD_refuses_251 : decode c_MD_refuses 251 = .ok (.iconst 0, 1) := by decide +kernel
theorem d_MD_refuses_252 : decode c_MD_refuses 252 = .ok (.ireturn, 1) := by decide +kernel
theorem d_MD_refuses_253 : decode c_MD_refuses 253 = .ok (.aload_n 0, 1) := by decide +kernel
theorem d_MD_refuses_254 : decode c_MD_refuses 254 = .ok (.iload_n 2, 1) := by decide +kernel
theorem d_MD_refuses_255 : decode c_MD_refuses 255 = .ok (.iload_n 3, 1) := by decide +kernel
theorem d_MD_refuses_256 : decode c_MD_refuses 256 = .ok (.invokevirtual 181, 3) := by decide +kernel
theorem d_MD_refuses_259 : decode c_MD_refuses 259 = .ok (.iload 5, 2) := by decide +kernel
theorem d_MD_refuses_261 : decode c_MD_refuses 261 = .ok (.if_icmp .le 7, 3) := by decide +kernel
theorem d_MD_refuses_264 : decode c_MD_refuses 264 = .ok (.iconst 1, 1) := by decide +kernel
theorem d_MD_refuses_265 : decode c_MD_refuses 265 = .ok (.goto 4, 3) := by decide +kernel
theorem d_MD_refuses_268 : decode c_MD_refuses 268 = .ok (.iconst 0, 1) := by decide +kernel
theorem d_MD_refuses_269 : decode c_MD_refuses 269 = .ok (.ireturn, 1) := by decide +kernel
theorem d_MD_refuses_270 : decode c_MD_refuses 270 = .ok (.aload_n 0, 1) := by decide +kernel
theorem d_MD_refuses_271 : decode c_MD_refuses 271 = .ok (.iload_n 2, 1) := by decide +kernel
theorem d_MD_refuses_272 : decode c_MD_refuses 272 = .ok (.iload_n 3, 1) := by decide +kernel
theorem d_MD_refuses_273 : decode c_MD_refuses 273 = .ok (.invokevirtual 184, 3) := by decide +kernel
theorem d_MD_refuses_276 : decode c_MD_refuses 276 = .ok (.iload 5, 2) := by decide +kernel
theorem d_MD_refuses_278 : decode c_MD_refuses 278 = .ok (.if_icmp .le 7, 3) := by decide +kernel
theorem d_MD_refuses_281 : decode c_MD_refuses 281 = .ok (.iconst 1, 1) := by decide +kernel
theorem d_MD_refuses_282 : decode c_MD_refuses 282 = .ok (.goto 4, 3) := by decide +kernel
theorem d_MD_refuses_285 : decode c_MD_refuses 285 = .ok (.iconst 0, 1) := by decide +kernel
theorem d_MD_refuses_286 : decode c_MD_refuses 286 = .ok (.ireturn, 1) := by decide +kernel
theorem d_MD_refuses_287 : decode c_MD_refuses 287 = .ok (.aload_n 0, 1) := by decide +kernel
theorem d_MD_refuses_288 : decode c_MD_refuses 288 = .ok (.getfield 13, 3) := by decide +kernel
theorem d_MD_refuses_291 : decode c_MD_refuses 291 = .ok (.bipush 10, 2) := by decide +kernel
theorem d_MD_refuses_293 : decode c_MD_refuses 293 = .ok (.iload_n 2, 1) := by decide +kernel
theorem d_MD_refuses_294 : decode c_MD_refuses 294 = .ok (.imul, 1) := by decide +kernel
theorem d_MD_refuses_295 : decode c_MD_refuses 295 = .ok (.bipush 9, 2) := by decide +kernel
theorem d_MD_refuses_297 : decode c_MD_refuses 297 = .ok (.iadd, 1) := by decide +kernel
theorem d_MD_refuses_298 : decode c_MD_refuses 298 = .ok (.iaload, 1) := by decide +kernel
theorem d_MD_refuses_299 : decode c_MD_refuses 299 = .ok (.iload 4, 2) := by decide +kernel
theorem d_MD_refuses_301 : decode c_MD_refuses 301 = .ok (.isub, 1) := by decide +kernel
theorem d_MD_refuses_302 : decode c_MD_refuses 302 = .ok (.iload 5, 2) := by decide +kernel
theorem d_MD_refuses_304 : decode c_MD_refuses 304 = .ok (.if_icmp .ge 7, 3) := by decide +kernel
theorem d_MD_refuses_307 : decode c_MD_refuses 307 = .ok (.iconst 1, 1) := by decide +kernel
theorem d_MD_refuses_308 : decode c_MD_refuses 308 = .ok (.goto 4, 3) := by decide +kernel
theorem d_MD_refuses_311 : decode c_MD_refuses 311 = .ok (.iconst 0, 1) := by decide +kernel
theorem d_MD_refuses_312 : decode c_MD_refuses 312 = .ok (.ireturn, 1) := by decide +kernel
theorem d_MD_refuses_313 : decode c_MD_refuses 313 = .ok (.aload_n 0, 1) := by decide +kernel
theorem d_MD_refuses_314 : decode c_MD_refuses 314 = .ok (.iload 5, 2) := by decide +kernel
theorem d_MD_refuses_316 : decode c_MD_refuses 316 = .ok (.iload_n 2, 1) := by decide +kernel
theorem d_MD_refuses_317 : decode c_MD_refuses 317 = .ok (.iload_n 3, 1) := by decide +kernel
theorem d_MD_refuses_318 : decode c_MD_refuses 318 = .ok (.invokevirtual 187, 3) := by decide +kernel
theorem d_MD_refuses_321 : decode c_MD_refuses 321 = .ok (.ireturn, 1) := by decide +kernel
theorem d_MD_ask_0 : decode c_MD_ask 0 = .ok (.aload_n 0, 1) := by decide +kernel
theorem d_MD_ask_1 : decode c_MD_ask 1 = .ok (.iconst 0, 1) := by decide +kernel
theorem d_MD_ask_2 : decode c_MD_ask 2 = .ok (.putfield 190, 3) := by decide +kernel
theorem d_MD_ask_5 : decode c_MD_ask 5 = .ok (.iconst 1, 1) := by decide +kernel
theorem d_MD_ask_6 : decode c_MD_ask 6 = .ok (.istore 4, 2) := by decide +kernel
theorem d_MD_ask_8 : decode c_MD_ask 8 = .ok (.iload 4, 2) := by decide +kernel
theorem d_MD_ask_10 : decode c_MD_ask 10 = .ok (.bipush 100, 2) := by decide +kernel
theorem d_MD_ask_12 : decode c_MD_ask 12 = .ok (.if_icmp .gt 92, 3) := by decide +kernel
theorem d_MD_ask_15 : decode c_MD_ask 15 = .ok (.iconst 0, 1) := by decide +kernel
theorem d_MD_ask_16 : decode c_MD_ask 16 = .ok (.istore 5, 2) := by decide +kernel
theorem d_MD_ask_18 : decode c_MD_ask 18 = .ok (.iload 5, 2) := by decide +kernel
theorem d_MD_ask_20 : decode c_MD_ask 20 = .ok (.aload_n 0, 1) := by decide +kernel
theorem d_MD_ask_21 : decode c_MD_ask 21 = .ok (.getfield 94, 3) := by decide +kernel
theorem d_MD_ask_24 : decode c_MD_ask 24 = .ok (.if_icmp .ge 74, 3) := by decide +kernel
theorem d_MD_ask_27 : decode c_MD_ask 27 = .ok (.aload_n 0, 1) := by decide +kernel
theorem d_MD_ask_28 : decode c_MD_ask 28 = .ok (.getfield 19, 3) := by decide +kernel
theorem d_MD_ask_31 : decode c_MD_ask 31 = .ok (.iload 5, 2) := by decide +kernel
theorem d_MD_ask_33 : decode c_MD_ask 33 = .ok (.iaload, 1) := by decide +kernel
theorem d_MD_ask_34 : decode c_MD_ask 34 = .ok (.iload 4, 2) := by decide +kernel
theorem d_MD_ask_36 : decode c_MD_ask 36 = .ok (.if_icmp .ne 56, 3) := by decide +kernel
theorem d_MD_ask_39 : decode c_MD_ask 39 = .ok (.aload_n 0, 1) := by decide +kernel
theorem d_MD_ask_40 : decode c_MD_ask 40 = .ok (.iload 5, 2) := by decide +kernel
theorem d_MD_ask_42 : decode c_MD_ask 42 = .ok (.iload_n 1, 1) := by decide +kernel
theorem d_MD_ask_43 : decode c_MD_ask 43 = .ok (.iload_n 2, 1) := by decide +kernel
theorem d_MD_ask_44 : decode c_MD_ask 44 = .ok (.iload_n 3, 1) := by decide +kernel
theorem d_MD_ask_45 : decode c_MD_ask 45 = .ok (.invokevirtual 193, 3) := by decide +kernel
theorem d_MD_ask_48 : decode c_MD_ask 48 = .ok (.ifCond .ne 44, 3) := by decide +kernel
theorem d_MD_ask_51 : decode c_MD_ask 51 = .ok (.aload_n 0, 1) := by decide +kernel
theorem d_MD_ask_52 : decode c_MD_ask 52 = .ok (.iload 5, 2) := by decide +kernel
theorem d_MD_ask_54 : decode c_MD_ask 54 = .ok (.iload_n 1, 1) := by decide +kernel
theorem d_MD_ask_55 : decode c_MD_ask 55 = .ok (.iload_n 2, 1) := by decide +kernel
theorem d_MD_ask_56 : decode c_MD_ask 56 = .ok (.iload_n 3, 1) := by decide +kernel
theorem d_MD_ask_57 : decode c_MD_ask 57 = .ok (.invokevirtual 197, 3) := by decide +kernel
theorem d_MD_ask_60 : decode c_MD_ask 60 = .ok (.ifCond .eq 32, 3) := by decide +kernel
theorem d_MD_ask_63 : decode c_MD_ask 63 = .ok (.aload_n 0, 1) := by decide +kernel
theorem d_MD_ask_64 : decode c_MD_ask 64 = .ok (.getfield 31, 3) := by decide +kernel
theorem d_MD_ask_67 : decode c_MD_ask 67 = .ok (.iload 5, 2) := by decide +kernel
theorem d_MD_ask_69 : decode c_MD_ask 69 = .ok (.iconst 1, 1) := by decide +kernel
theorem d_MD_ask_70 : decode c_MD_ask 70 = .ok (.bastore, 1) := by decide +kernel
theorem d_MD_ask_71 : decode c_MD_ask 71 = .ok (.aload_n 0, 1) := by decide +kernel
theorem d_MD_ask_72 : decode c_MD_ask 72 = .ok (.getfield 53, 3) := by decide +kernel
theorem d_MD_ask_75 : decode c_MD_ask 75 = .ok (.aload_n 0, 1) := by decide +kernel
theorem d_MD_ask_76 : decode c_MD_ask 76 = .ok (.getfield 190, 3) := by decide +kernel
theorem d_MD_ask_79 : decode c_MD_ask 79 = .ok (.iload 5, 2) := by decide +kernel
theorem d_MD_ask_81 : decode c_MD_ask 81 = .ok (.iastore, 1) := by decide +kernel
theorem d_MD_ask_82 : decode c_MD_ask 82 = .ok (.aload_n 0, 1) := by decide +kernel
theorem d_MD_ask_83 : decode c_MD_ask 83 = .ok (.dup, 1) := by decide +kernel
theorem d_MD_ask_84 : decode c_MD_ask 84 = .ok (.getfield 190, 3) := by decide +kernel
theorem d_MD_ask_87 : decode c_MD_ask 87 = .ok (.iconst 1, 1) := by decide +kernel
theorem d_MD_ask_88 : decode c_MD_ask 88 = .ok (.iadd, 1) := by decide +kernel
theorem d_MD_ask_89 : decode c_MD_ask 89 = .ok (.putfield 190, 3) := by decide +kernel
theorem d_MD_ask_92 : decode c_MD_ask 92 = .ok (.iinc 5 1, 3) := by decide +kernel
theorem d_MD_ask_95 : decode c_MD_ask 95 = .ok (.goto (-77), 3) := by decide +kernel
theorem d_MD_ask_98 : decode c_MD_ask 98 = .ok (.iinc 4 1, 3) := by decide +kernel
theorem d_MD_ask_101 : decode c_MD_ask 101 = .ok (.goto (-93), 3) := by decide +kernel
theorem d_MD_ask_104 : decode c_MD_ask 104 = .ok (.aload_n 0, 1) := by decide +kernel
theorem d_MD_ask_105 : decode c_MD_ask 105 = .ok (.getfield 190, 3) := by decide +kernel
theorem d_MD_ask_108 : decode c_MD_ask 108 = .ok (.ifCond .le 14, 3) := by decide +kernel
theorem d_MD_ask_111 : decode c_MD_ask 111 = .ok (.aload_n 0, 1) := by decide +kernel
theorem d_MD_ask_112 : decode c_MD_ask 112 = .ok (.getfield 53, 3) := by decide +kernel
theorem d_MD_ask_115 : decode c_MD_ask 115 = .ok (.iconst 0, 1) := by decide +kernel
theorem d_MD_ask_116 : decode c_MD_ask 116 = .ok (.iaload, 1) := by decide +kernel
theorem d_MD_ask_117 : decode c_MD_ask 117 = .ok (.iconst 1, 1) := by decide +kernel
theorem d_MD_ask_118 : decode c_MD_ask 118 = .ok (.iadd, 1) := by decide +kernel
theorem d_MD_ask_119 : decode c_MD_ask 119 = .ok (.goto 4, 3) := by decide +kernel
theorem d_MD_ask_122 : decode c_MD_ask 122 = .ok (.iconst 0, 1) := by decide +kernel
theorem d_MD_ask_123 : decode c_MD_ask 123 = .ok (.ireturn, 1) := by decide +kernel
theorem d_MD_may_0 : decode c_MD_may 0 = .ok (.aload_n 0, 1) := by decide +kernel
theorem d_MD_may_1 : decode c_MD_may 1 = .ok (.aload_n 0, 1) := by decide +kernel
theorem d_MD_may_2 : decode c_MD_may 2 = .ok (.iload_n 1, 1) := by decide +kernel
theorem d_MD_may_3 : decode c_MD_may 3 = .ok (.invokevirtual 91, 3) := by decide +kernel
theorem d_MD_may_6 : decode c_MD_may 6 = .ok (.ifCond .ne 7, 3) := by decide +kernel
theorem d_MD_may_9 : decode c_MD_may 9 = .ok (.iconst 1, 1) := by decide +kernel
theorem d_MD_may_10 : decode c_MD_may 10 = .ok (.goto 4, 3) := by decide +kernel
theorem d_MD_may_13 : decode c_MD_may 13 = .ok (.iconst 0, 1) := by decide +kernel
theorem d_MD_may_14 : decode c_MD_may 14 = .ok (.iload_n 2, 1) := by decide +kernel
theorem d_MD_may_15 : decode c_MD_may 15 = .ok (.invokestatic 71, 3) := by decide +kernel
theorem d_MD_may_18 : decode c_MD_may 18 = .ok (.ifCond .eq 14, 3) := by decide +kernel
theorem d_MD_may_21 : decode c_MD_may 21 = .ok (.iload_n 3, 1) := by decide +kernel
theorem d_MD_may_22 : decode c_MD_may 22 = .ok (.iconst 0, 1) := by decide +kernel
theorem d_MD_may_23 : decode c_MD_may 23 = .ok (.sipush 1000, 3) := by decide +kernel
theorem d_MD_may_26 : decode c_MD_may 26 = .ok (.invokestatic 67, 3) := by decide +kernel
theorem d_MD_may_29 : decode c_MD_may 29 = .ok (.ifCond .ne 7, 3) := by decide +kernel
theorem d_MD_may_32 : decode c_MD_may 32 = .ok (.iconst 1, 1) := by decide +kernel
theorem d_MD_may_33 : decode c_MD_may 33 = .ok (.goto 4, 3) := by decide +kernel
theorem d_MD_may_36 : decode c_MD_may 36 = .ok (.iconst 0, 1) := by decide +kernel
theorem d_MD_may_37 : decode c_MD_may 37 = .ok (.iconst 0, 1) := by decide +kernel
theorem d_MD_may_38 : decode c_MD_may 38 = .ok (.invokevirtual 78, 3) := by decide +kernel
theorem d_MD_may_41 : decode c_MD_may 41 = .ok (.ifCond .eq 7, 3) := by decide +kernel
theorem d_MD_may_44 : decode c_MD_may 44 = .ok (.iconst 0, 1) := by decide +kernel
theorem d_MD_may_45 : decode c_MD_may 45 = .ok (.goto 10, 3) := by decide +kernel
theorem d_MD_may_48 : decode c_MD_may 48 = .ok (.aload_n 0, 1) := by decide +kernel
theorem d_MD_may_49 : decode c_MD_may 49 = .ok (.iload_n 1, 1) := by decide +kernel
theorem d_MD_may_50 : decode c_MD_may 50 = .ok (.iload_n 2, 1) := by decide +kernel
theorem d_MD_may_51 : decode c_MD_may 51 = .ok (.iload_n 3, 1) := by decide +kernel
theorem d_MD_may_52 : decode c_MD_may 52 = .ok (.invokevirtual 200, 3) := by decide +kernel
theorem d_MD_may_55 : decode c_MD_may 55 = .ok (.ireturn, 1) := by decide +kernel
theorem d_MD_explain_0 : decode c_MD_explain 0 = .ok (.aload_n 0, 1) := by decide +kernel
theorem d_MD_explain_1 : decode c_MD_explain 1 = .ok (.iload_n 1, 1) := by decide +kernel
theorem d_MD_explain_2 : decode c_MD_explain 2 = .ok (.ifCond .ge 7, 3) := by decide +kernel
theorem d_MD_explain_5 : decode c_MD_explain 5 = .ok (.iconst 1, 1) := by decide +kernel
theorem d_MD_explain_6 : decode c_MD_explain 6 = .ok (.goto 4, 3) := by decide +kernel
theorem d_MD_explain_9 : decode c_MD_explain 9 = .ok (.iconst 0, 1) := by decide +kernel
theorem d_MD_explain_10 : decode c_MD_explain 10 = .ok (.iconst 0, 1) := by decide +kernel
theorem d_MD_explain_11 : decode c_MD_explain 11 = .ok (.iconst 0, 1) := by decide +kernel
theorem d_MD_explain_12 : decode c_MD_explain 12 = .ok (.invokevirtual 78, 3) := by decide +kernel
theorem d_MD_explain_15 : decode c_MD_explain 15 = .ok (.ifCond .eq 7, 3) := by decide +kernel
theorem d_MD_explain_18 : decode c_MD_explain 18 = .ok (.iconst 0, 1) := by decide +kernel
theorem d_MD_explain_19 : decode c_MD_explain 19 = .ok (.goto 21, 3) := by decide +kernel
theorem d_MD_explain_22 : decode c_MD_explain 22 = .ok (.iload_n 1, 1) := by decide +kernel
theorem d_MD_explain_23 : decode c_MD_explain 23 = .ok (.aload_n 0, 1) := by decide +kernel
theorem d_MD_explain_24 : decode c_MD_explain 24 = .ok (.getfield 190, 3) := by decide +kernel
theorem d_MD_explain_27 : decode c_MD_explain 27 = .ok (.if_icmp .ge 12, 3) := by decide +kernel
theorem d_MD_explain_30 : decode c_MD_explain 30 = .ok (.aload_n 0, 1) := by decide +kernel
theorem d_MD_explain_31 : decode c_MD_explain 31 = .ok (.getfield 53, 3) := by decide +kernel
theorem d_MD_explain_34 : decode c_MD_explain 34 = .ok (.iload_n 1, 1) := by decide +kernel
theorem d_MD_explain_35 : decode c_MD_explain 35 = .ok (.iaload, 1) := by decide +kernel
theorem d_MD_explain_36 : decode c_MD_explain 36 = .ok (.goto 4, 3) := by decide +kernel
theorem d_MD_explain_39 : decode c_MD_explain 39 = .ok (.iconst (-1), 1) := by decide +kernel
theorem d_MD_explain_40 : decode c_MD_explain 40 = .ok (.ireturn, 1) := by decide +kernel
theorem d_MD_put_0 : decode c_MD_put 0 = .ok (.iload_n 2, 1) := by decide +kernel
theorem d_MD_put_1 : decode c_MD_put 1 = .ok (.invokestatic 71, 3) := by decide +kernel
theorem d_MD_put_4 : decode c_MD_put 4 = .ok (.ifCond .eq 14, 3) := by decide +kernel
theorem d_MD_put_7 : decode c_MD_put 7 = .ok (.iload_n 3, 1) := by decide +kernel
theorem d_MD_put_8 : decode c_MD_put 8 = .ok (.iconst 0, 1) := by decide +kernel
theorem d_MD_put_9 : decode c_MD_put 9 = .ok (.sipush 1000, 3) := by decide +kernel
theorem d_MD_put_12 : decode c_MD_put 12 = .ok (.invokestatic 67, 3) := by decide +kernel
theorem d_MD_put_15 : decode c_MD_put 15 = .ok (.ifCond .ne 7, 3) := by decide +kernel
theorem d_MD_put_18 : decode c_MD_put 18 = .ok (.iconst 1, 1) := by decide +kernel
theorem d_MD_put_19 : decode c_MD_put 19 = .ok (.goto 4, 3) := by decide +kernel
theorem d_MD_put_22 : decode c_MD_put 22 = .ok (.iconst 0, 1) := by decide +kernel
theorem d_MD_put_23 : decode c_MD_put 23 = .ok (.istore 4, 2) := by decide +kernel
theorem d_MD_put_25 : decode c_MD_put 25 = .ok (.aload_n 0, 1) := by decide +kernel
theorem d_MD_put_26 : decode c_MD_put 26 = .ok (.aload_n 0, 1) := by decide +kernel
theorem d_MD_put_27 : decode c_MD_put 27 = .ok (.iload_n 1, 1) := by decide +kernel
theorem d_MD_put_28 : decode c_MD_put 28 = .ok (.invokevirtual 91, 3) := by decide +kernel
theorem d_MD_put_31 : decode c_MD_put 31 = .ok (.ifCond .ne 7, 3) := by decide +kernel
theorem d_MD_put_34 : decode c_MD_put 34 = .ok (.iconst 1, 1) := by decide +kernel
theorem d_MD_put_35 : decode c_MD_put 35 = .ok (.goto 4, 3) := by decide +kernel
theorem d_MD_put_38 : decode c_MD_put 38 = .ok (.iconst 0, 1) := by decide +kernel
theorem d_MD_put_39 : decode c_MD_put 39 = .ok (.iload 4, 2) := by decide +kernel
theorem d_MD_put_41 : decode c_MD_put 41 = .ok (.aload_n 0, 1) := by decide +kernel
theorem d_MD_put_42 : decode c_MD_put 42 = .ok (.iload_n 1, 1) := by decide +kernel
theorem d_MD_put_43 : decode c_MD_put 43 = .ok (.invokevirtual 91, 3) := by decide +kernel
theorem d_MD_put_46 : decode c_MD_put 46 = .ok (.ifCond .eq 17, 3) := by decide +kernel
theorem d_MD_put_49 : decode c_MD_put 49 = .ok (.aload_n 0, 1) := by decide +kernel
theorem d_MD_put_50 : decode c_MD_put 50 = .ok (.getfield 16, 3) := by decide +kernel
theorem d_MD_put_53 : decode c_MD_put 53 = .ok (.iload_n 1, 1) := by decide +kernel
theorem d_MD_put_54 : decode c_MD_put 54 = .ok (.iaload, 1) := by decide +kernel
theorem d_MD_put_55 : decode c_MD_put 55 = .ok (.iload_n 2, 1) := by decide +kernel
theorem d_MD_put_56 : decode c_MD_put 56 = .ok (.if_icmp .ne 7, 3) := by decide +kernel
theorem d_MD_put_59 : decode c_MD_put 59 = .ok (.iconst 1, 1) := by decide +kernel
theorem d_MD_put_60 : decode c_MD_put 60 = .ok (.goto 4, 3) := by decide +kernel
theorem d_MD_put_63 : decode c_MD_put 63 = .ok (.iconst 0, 1) := by decide +kernel
theorem d_MD_put_64 : decode c_MD_put 64 = .ok (.invokevirtual 78, 3) := by decide +kernel
theorem d_MD_put_67 : decode c_MD_put 67 = .ok (.ifCond .eq 5, 3) := by decide +kernel
theorem d_MD_put_70 : decode c_MD_put 70 = .ok (.iconst 0, 1) := by decide +kernel
theorem d_MD_put_71 : decode c_MD_put 71 = .ok (.ireturn, 1) := by decide +kernel
theorem d_MD_put_72 : decode c_MD_put 72 = .ok (.aload_n 0, 1) := by decide +kernel
theorem d_MD_put_73 : decode c_MD_put 73 = .ok (.iload_n 1, 1) := by decide +kernel
theorem d_MD_put_74 : decode c_MD_put 74 = .ok (.iload_n 2, 1) := by decide +kernel
theorem d_MD_put_75 : decode c_MD_put 75 = .ok (.iload_n 3, 1) := by decide +kernel
theorem d_MD_put_76 : decode c_MD_put 76 = .ok (.invokevirtual 200, 3) := by decide +kernel
theorem d_MD_put_79 : decode c_MD_put 79 = .ok (.istore 5, 2) := by decide +kernel
theorem d_MD_put_81 : decode c_MD_put 81 = .ok (.aload_n 0, 1) := by decide +kernel
theorem d_MD_put_82 : decode c_MD_put 82 = .ok (.getfield 16, 3) := by decide +kernel
theorem d_MD_put_85 : decode c_MD_put 85 = .ok (.iload_n 1, 1) := by decide +kernel
theorem d_MD_put_86 : decode c_MD_put 86 = .ok (.iload 5, 2) := by decide +kernel
theorem d_MD_put_88 : decode c_MD_put 88 = .ok (.ifCond .ne 7, 3) := by decide +kernel
theorem d_MD_put_91 : decode c_MD_put 91 = .ok (.iload_n 2, 1) := by decide +kernel
theorem d_MD_put_92 : decode c_MD_put 92 = .ok (.goto 9, 3) := by decide +kernel
theorem d_MD_put_95 : decode c_MD_put 95 = .ok (.aload_n 0, 1) := by decide +kernel
theorem d_MD_put_96 : decode c_MD_put 96 = .ok (.getfield 16, 3) := by decide +kernel
theorem d_MD_put_99 : decode c_MD_put 99 = .ok (.iload_n 1, 1) := by decide +kernel
theorem d_MD_put_100 : decode c_MD_put 100 = .ok (.iaload, 1) := by decide +kernel
theorem d_MD_put_101 : decode c_MD_put 101 = .ok (.iastore, 1) := by decide +kernel
theorem d_MD_put_102 : decode c_MD_put 102 = .ok (.iload 5, 2) := by decide +kernel
theorem d_MD_put_104 : decode c_MD_put 104 = .ok (.ireturn, 1) := by decide +kernel
theorem d_MD_take_0 : decode c_MD_take 0 = .ok (.aload_n 0, 1) := by decide +kernel
theorem d_MD_take_1 : decode c_MD_take 1 = .ok (.aload_n 0, 1) := by decide +kernel
theorem d_MD_take_2 : decode c_MD_take 2 = .ok (.iload_n 1, 1) := by decide +kernel
theorem d_MD_take_3 : decode c_MD_take 3 = .ok (.invokevirtual 91, 3) := by decide +kernel
theorem d_MD_take_6 : decode c_MD_take 6 = .ok (.ifCond .ne 7, 3) := by decide +kernel
theorem d_MD_take_9 : decode c_MD_take 9 = .ok (.iconst 1, 1) := by decide +kernel
theorem d_MD_take_10 : decode c_MD_take 10 = .ok (.goto 4, 3) := by decide +kernel
theorem d_MD_take_13 : decode c_MD_take 13 = .ok (.iconst 0, 1) := by decide +kernel
theorem d_MD_take_14 : decode c_MD_take 14 = .ok (.aload_n 0, 1) := by decide +kernel
theorem d_MD_take_15 : decode c_MD_take 15 = .ok (.iload_n 1, 1) := by decide +kernel
theorem d_MD_take_16 : decode c_MD_take 16 = .ok (.invokevirtual 91, 3) := by decide +kernel
theorem d_MD_take_19 : decode c_MD_take 19 = .ok (.ifCond .eq 16, 3) := by decide +kernel
theorem d_MD_take_22 : decode c_MD_take 22 = .ok (.aload_n 0, 1) := by decide +kernel
theorem d_MD_take_23 : decode c_MD_take 23 = .ok (.getfield 16, 3) := by decide +kernel
theorem d_MD_take_26 : decode c_MD_take 26 = .ok (.iload_n 1, 1) := by decide +kernel
theorem d_MD_take_27 : decode c_MD_take 27 = .ok (.iaload, 1) := by decide +kernel
theorem d_MD_take_28 : decode c_MD_take 28 = .ok (.ifCond .ge 7, 3) := by decide +kernel
theorem d_MD_take_31 : decode c_MD_take 31 = .ok (.iconst 1, 1) := by decide +kernel
theorem d_MD_take_32 : decode c_MD_take 32 = .ok (.goto 4, 3) := by decide +kernel
theorem d_MD_take_35 : decode c_MD_take 35 = .ok (.iconst 0, 1) := by decide +kernel
theorem d_MD_take_36 : decode c_MD_take 36 = .ok (.iconst 0, 1) := by decide +kernel
theorem d_MD_take_37 : decode c_MD_take 37 = .ok (.invokevirtual 78, 3) := by decide +kernel
theorem d_MD_take_40 : decode c_MD_take 40 = .ok (.ifCond .ne 10, 3) := by decide +kernel
theorem d_MD_take_43 : decode c_MD_take 43 = .ok (.aload_n 0, 1) := by decide +kernel
theorem d_MD_take_44 : decode c_MD_take 44 = .ok (.getfield 16, 3) := by decide +kernel
theorem d_MD_take_47 : decode c_MD_take 47 = .ok (.iload_n 1, 1) := by decide +kernel
theorem d_MD_take_48 : decode c_MD_take 48 = .ok (.iconst (-1), 1) := by decide +kernel
theorem d_MD_take_49 : decode c_MD_take 49 = .ok (.iastore, 1) := by decide +kernel
theorem d_MD_take_50 : decode c_MD_take 50 = .ok (.return_, 1) := by decide +kernel
theorem d_MD_turned_0 : decode c_MD_turned 0 = .ok (.aload_n 0, 1) := by decide +kernel
theorem d_MD_turned_1 : decode c_MD_turned 1 = .ok (.aload_n 0, 1) := by decide +kernel
theorem d_MD_turned_2 : decode c_MD_turned 2 = .ok (.iload_n 1, 1) := by decide +kernel
theorem d_MD_turned_3 : decode c_MD_turned 3 = .ok (.invokevirtual 91, 3) := by decide +kernel
theorem d_MD_turned_6 : decode c_MD_turned 6 = .ok (.ifCond .ne 7, 3) := by decide +kernel
theorem d_MD_turned_9 : decode c_MD_turned 9 = .ok (.iconst 1, 1) := by decide +kernel
theorem d_MD_turned_10 : decode c_MD_turned 10 = .ok (.goto 4, 3) := by decide +kernel
theorem d_MD_turned_13 : decode c_MD_turned 13 = .ok (.iconst 0, 1) := by decide +kernel
theorem d_MD_turned_14 : decode c_MD_turned 14 = .ok (.iload_n 2, 1) := by decide +kernel
theorem d_MD_turned_15 : decode c_MD_turned 15 = .ok (.invokestatic 71, 3) := by decide +kernel
theorem d_MD_turned_18 : decode c_MD_turned 18 = .ok (.ifCond .ne 7, 3) := by decide +kernel
theorem d_MD_turned_21 : decode c_MD_turned 21 = .ok (.iconst 1, 1) := by decide +kernel
theorem d_MD_turned_22 : decode c_MD_turned 22 = .ok (.goto 4, 3) := by decide +kernel
theorem d_MD_turned_25 : decode c_MD_turned 25 = .ok (.iconst 0, 1) := by decide +kernel
theorem d_MD_turned_26 : decode c_MD_turned 26 = .ok (.iconst 0, 1) := by decide +kernel
theorem d_MD_turned_27 : decode c_MD_turned 27 = .ok (.invokevirtual 78, 3) := by decide +kernel
theorem d_MD_turned_30 : decode c_MD_turned 30 = .ok (.ifCond .eq 5, 3) := by decide +kernel
theorem d_MD_turned_33 : decode c_MD_turned 33 = .ok (.iconst 0, 1) := by decide +kernel
theorem d_MD_turned_34 : decode c_MD_turned 34 = .ok (.ireturn, 1) := by decide +kernel
theorem d_MD_turned_35 : decode c_MD_turned 35 = .ok (.iconst 0, 1) := by decide +kernel
theorem d_MD_turned_36 : decode c_MD_turned 36 = .ok (.istore_n 3, 1) := by decide +kernel
theorem d_MD_turned_37 : decode c_MD_turned 37 = .ok (.iload_n 3, 1) := by decide +kernel
theorem d_MD_turned_38 : decode c_MD_turned 38 = .ok (.bipush 6, 2) := by decide +kernel
theorem d_MD_turned_40 : decode c_MD_turned 40 = .ok (.if_icmp .ge 19, 3) := by decide +kernel
theorem d_MD_turned_43 : decode c_MD_turned 43 = .ok (.aload_n 0, 1) := by decide +kernel
theorem d_MD_turned_44 : decode c_MD_turned 44 = .ok (.iload_n 1, 1) := by decide +kernel
theorem d_MD_turned_45 : decode c_MD_turned 45 = .ok (.iload_n 2, 1) := by decide +kernel
theorem d_MD_turned_46 : decode c_MD_turned 46 = .ok (.iload_n 3, 1) := by decide +kernel
theorem d_MD_turned_47 : decode c_MD_turned 47 = .ok (.invokevirtual 162, 3) := by decide +kernel
theorem d_MD_turned_50 : decode c_MD_turned 50 = .ok (.ifCond .ne 9, 3) := by decide +kernel
theorem d_MD_turned_53 : decode c_MD_turned 53 = .ok (.iinc 3 1, 3) := by decide +kernel
theorem d_MD_turned_56 : decode c_MD_turned 56 = .ok (.goto (-19), 3) := by decide +kernel
theorem d_MD_turned_59 : decode c_MD_turned 59 = .ok (.iload_n 3, 1) := by decide +kernel
theorem d_MD_turned_60 : decode c_MD_turned 60 = .ok (.bipush 6, 2) := by decide +kernel
theorem d_MD_turned_62 : decode c_MD_turned 62 = .ok (.if_icmp .ge 7, 3) := by decide +kernel
theorem d_MD_turned_65 : decode c_MD_turned 65 = .ok (.iload_n 3, 1) := by decide +kernel
theorem d_MD_turned_66 : decode c_MD_turned 66 = .ok (.goto 4, 3) := by decide +kernel
theorem d_MD_turned_69 : decode c_MD_turned 69 = .ok (.iconst (-1), 1) := by decide +kernel
theorem d_MD_turned_70 : decode c_MD_turned 70 = .ok (.ireturn, 1) := by decide +kernel
theorem d_MD_never_0 : decode c_MD_never 0 = .ok (.aload_n 0, 1) := by decide +kernel
theorem d_MD_never_1 : decode c_MD_never 1 = .ok (.iload_n 1, 1) := by decide +kernel
theorem d_MD_never_2 : decode c_MD_never 2 = .ok (.ifCond .ge 7, 3) := by decide +kernel
theorem d_MD_never_5 : decode c_MD_never 5 = .ok (.iconst 1, 1) := by decide +kernel
theorem d_MD_never_6 : decode c_MD_never 6 = .ok (.goto 4, 3) := by decide +kernel
theorem d_MD_never_9 : decode c_MD_never 9 = .ok (.iconst 0, 1) := by decide +kernel
theorem d_MD_never_10 : decode c_MD_never 10 = .ok (.iconst 0, 1) := by decide +kernel
theorem d_MD_never_11 : decode c_MD_never 11 = .ok (.iconst 0, 1) := by decide +kernel
theorem d_MD_never_12 : decode c_MD_never 12 = .ok (.invokevirtual 78, 3) := by decide +kernel
theorem d_MD_never_15 : decode c_MD_never 15 = .ok (.ifCond .eq 5, 3) := by decide +kernel
theorem d_MD_never_18 : decode c_MD_never 18 = .ok (.iconst 0, 1) := by decide +kernel
theorem d_MD_never_19 : decode c_MD_never 19 = .ok (.ireturn, 1) := by decide +kernel
theorem d_MD_never_20 : decode c_MD_never 20 = .ok (.iload_n 1, 1) := by decide +kernel
theorem d_MD_never_21 : decode c_MD_never 21 = .ok (.istore_n 2, 1) := by decide +kernel
theorem d_MD_never_22 : decode c_MD_never 22 = .ok (.iconst 0, 1) := by decide +kernel
theorem d_MD_never_23 : decode c_MD_never 23 = .ok (.istore_n 3, 1) := by decide +kernel
theorem d_MD_never_24 : decode c_MD_never 24 = .ok (.iload_n 3, 1) := by decide +kernel
theorem d_MD_never_25 : decode c_MD_never 25 = .ok (.aload_n 0, 1) := by decide +kernel
theorem d_MD_never_26 : decode c_MD_never 26 = .ok (.getfield 94, 3) := by decide +kernel
theorem d_MD_never_29 : decode c_MD_never 29 = .ok (.if_icmp .ge 27, 3) := by decide +kernel
theorem d_MD_never_32 : decode c_MD_never 32 = .ok (.aload_n 0, 1) := by decide +kernel
theorem d_MD_never_33 : decode c_MD_never 33 = .ok (.getfield 31, 3) := by decide +kernel
theorem d_MD_never_36 : decode c_MD_never 36 = .ok (.iload_n 3, 1) := by decide +kernel
theorem d_MD_never_37 : decode c_MD_never 37 = .ok (.baload, 1) := by decide +kernel
theorem d_MD_never_38 : decode c_MD_never 38 = .ok (.ifCond .ne 12, 3) := by decide +kernel
theorem d_MD_never_41 : decode c_MD_never 41 = .ok (.iload_n 2, 1) := by decide +kernel
theorem d_MD_never_42 : decode c_MD_never 42 = .ok (.ifCond .ne 5, 3) := by decide +kernel
theorem d_MD_never_45 : decode c_MD_never 45 = .ok (.iload_n 3, 1) := by decide +kernel
theorem d_MD_never_46 : decode c_MD_never 46 = .ok (.ireturn, 1) := by decide +kernel
theorem d_MD_never_47 : decode c_MD_never 47 = .ok (.iinc 2 (-1), 3) := by decide +kernel
theorem d_MD_never_50 : decode c_MD_never 50 = .ok (.iinc 3 1, 3) := by decide +kernel
theorem d_MD_never_53 : decode c_MD_never 53 = .ok (.goto (-29), 3) := by decide +kernel
theorem d_MD_never_56 : decode c_MD_never 56 = .ok (.iconst (-1), 1) := by decide +kernel
theorem d_MD_never_57 : decode c_MD_never 57 = .ok (.ireturn, 1) := by decide +kernel
theorem d_MD_clash_0 : decode c_MD_clash 0 = .ok (.aload_n 0, 1) := by decide +kernel
theorem d_MD_clash_1 : decode c_MD_clash 1 = .ok (.iload_n 1, 1) := by decide +kernel
theorem d_MD_clash_2 : decode c_MD_clash 2 = .ok (.ifCond .lt 12, 3) := by decide +kernel
theorem d_MD_clash_5 : decode c_MD_clash 5 = .ok (.iload_n 2, 1) := by decide +kernel
theorem d_MD_clash_6 : decode c_MD_clash 6 = .ok (.iconst 0, 1) := by decide +kernel
theorem d_MD_clash_7 : decode c_MD_clash 7 = .ok (.iconst 1, 1) := by decide +kernel
theorem d_MD_clash_8 : decode c_MD_clash 8 = .ok (.invokestatic 67, 3) := by decide +kernel
theorem d_MD_clash_11 : decode c_MD_clash 11 = .ok (.ifCond .ne 7, 3) := by decide +kernel
theorem d_MD_clash_14 : decode c_MD_clash 14 = .ok (.iconst 1, 1) := by decide +kernel
theorem d_MD_clash_15 : decode c_MD_clash 15 = .ok (.goto 4, 3) := by decide +kernel
theorem d_MD_clash_18 : decode c_MD_clash 18 = .ok (.iconst 0, 1) := by decide +kernel
theorem d_MD_clash_19 : decode c_MD_clash 19 = .ok (.iconst 0, 1) := by decide +kernel
theorem d_MD_clash_20 : decode c_MD_clash 20 = .ok (.iconst 0, 1) := by decide +kernel
theorem d_MD_clash_21 : decode c_MD_clash 21 = .ok (.invokevirtual 78, 3) := by decide +kernel
theorem d_MD_clash_24 : decode c_MD_clash 24 = .ok (.ifCond .eq 7, 3) := by decide +kernel
theorem d_MD_clash_27 : decode c_MD_clash 27 = .ok (.iconst 0, 1) := by decide +kernel
theorem d_MD_clash_28 : decode c_MD_clash 28 = .ok (.goto 25, 3) := by decide +kernel
theorem d_MD_clash_31 : decode c_MD_clash 31 = .ok (.iload_n 1, 1) := by decide +kernel
theorem d_MD_clash_32 : decode c_MD_clash 32 = .ok (.aload_n 0, 1) := by decide +kernel
theorem d_MD_clash_33 : decode c_MD_clash 33 = .ok (.getfield 97, 3) := by decide +kernel
theorem d_MD_clash_36 : decode c_MD_clash 36 = .ok (.if_icmp .ge 16, 3) := by decide +kernel
theorem d_MD_clash_39 : decode c_MD_clash 39 = .ok (.aload_n 0, 1) := by decide +kernel
theorem d_MD_clash_40 : decode c_MD_clash 40 = .ok (.getfield 50, 3) := by decide +kernel
theorem d_MD_clash_43 : decode c_MD_clash 43 = .ok (.iconst 2, 1) := by decide +kernel
theorem d_MD_clash_44 : decode c_MD_clash 44 = .ok (.iload_n 1, 1) := by decide +kernel
theorem d_MD_clash_45 : decode c_MD_clash 45 = .ok (.imul, 1) := by decide +kernel
theorem d_MD_clash_46 : decode c_MD_clash 46 = .ok (.iload_n 2, 1) := by decide +kernel
theorem d_MD_clash_47 : decode c_MD_clash 47 = .ok (.iadd, 1) := by decide +kernel
theorem d_MD_clash_48 : decode c_MD_clash 48 = .ok (.iaload, 1) := by decide +kernel
theorem d_MD_clash_49 : decode c_MD_clash 49 = .ok (.goto 4, 3) := by decide +kernel
theorem d_MD_clash_52 : decode c_MD_clash 52 = .ok (.iconst (-1), 1) := by decide +kernel
theorem d_MD_clash_53 : decode c_MD_clash 53 = .ok (.ireturn, 1) := by decide +kernel
theorem d_MD_at_0 : decode c_MD_at 0 = .ok (.aload_n 0, 1) := by decide +kernel
theorem d_MD_at_1 : decode c_MD_at 1 = .ok (.iload_n 1, 1) := by decide +kernel
theorem d_MD_at_2 : decode c_MD_at 2 = .ok (.invokestatic 71, 3) := by decide +kernel
theorem d_MD_at_5 : decode c_MD_at 5 = .ok (.ifCond .eq 7, 3) := by decide +kernel
theorem d_MD_at_8 : decode c_MD_at 8 = .ok (.iload_n 2, 1) := by decide +kernel
theorem d_MD_at_9 : decode c_MD_at 9 = .ok (.ifCond .ge 7, 3) := by decide +kernel
theorem d_MD_at_12 : decode c_MD_at 12 = .ok (.iconst 1, 1) := by decide +kernel
theorem d_MD_at_13 : decode c_MD_at 13 = .ok (.goto 4, 3) := by decide +kernel
theorem d_MD_at_16 : decode c_MD_at 16 = .ok (.iconst 0, 1) := by decide +kernel
theorem d_MD_at_17 : decode c_MD_at 17 = .ok (.iconst 0, 1) := by decide +kernel
theorem d_MD_at_18 : decode c_MD_at 18 = .ok (.iconst 0, 1) := by decide +kernel
theorem d_MD_at_19 : decode c_MD_at 19 = .ok (.invokevirtual 78, 3) := by decide +kernel
theorem d_MD_at_22 : decode c_MD_at 22 = .ok (.ifCond .eq 5, 3) := by decide +kernel
theorem d_MD_at_25 : decode c_MD_at 25 = .ok (.iconst 0, 1) := by decide +kernel
theorem d_MD_at_26 : decode c_MD_at 26 = .ok (.ireturn, 1) := by decide +kernel
theorem d_MD_at_27 : decode c_MD_at 27 = .ok (.iload_n 2, 1) := by decide +kernel
theorem d_MD_at_28 : decode c_MD_at 28 = .ok (.istore_n 3, 1) := by decide +kernel
theorem d_MD_at_29 : decode c_MD_at 29 = .ok (.iconst 0, 1) := by decide +kernel
theorem d_MD_at_30 : decode c_MD_at 30 = .ok (.istore 4, 2) := by decide +kernel
theorem d_MD_at_32 : decode c_MD_at 32 = .ok (.iload 4, 2) := by decide +kernel
theorem d_MD_at_34 : decode c_MD_at 34 = .ok (.aload_n 0, 1) := by decide +kernel
theorem d_MD_at_35 : decode c_MD_at 35 = .ok (.getfield 83, 3) := by decide +kernel
theorem d_MD_at_38 : decode c_MD_at 38 = .ok (.if_icmp .ge 30, 3) := by decide +kernel
theorem d_MD_at_41 : decode c_MD_at 41 = .ok (.aload_n 0, 1) := by decide +kernel
theorem d_MD_at_42 : decode c_MD_at 42 = .ok (.getfield 16, 3) := by decide +kernel
theorem d_MD_at_45 : decode c_MD_at 45 = .ok (.iload 4, 2) := by decide +kernel
theorem d_MD_at_47 : decode c_MD_at 47 = .ok (.iaload, 1) := by decide +kernel
theorem d_MD_at_48 : decode c_MD_at 48 = .ok (.iload_n 1, 1) := by decide +kernel
theorem d_MD_at_49 : decode c_MD_at 49 = .ok (.if_icmp .ne 13, 3) := by decide +kernel
theorem d_MD_at_52 : decode c_MD_at 52 = .ok (.iload_n 3, 1) := by decide +kernel
theorem d_MD_at_53 : decode c_MD_at 53 = .ok (.ifCond .ne 6, 3) := by decide +kernel
theorem d_MD_at_56 : decode c_MD_at 56 = .ok (.iload 4, 2) := by decide +kernel
theorem d_MD_at_58 : decode c_MD_at 58 = .ok (.ireturn, 1) := by decide +kernel
theorem d_MD_at_59 : decode c_MD_at 59 = .ok (.iinc 3 (-1), 3) := by decide +kernel
theorem d_MD_at_62 : decode c_MD_at 62 = .ok (.iinc 4 1, 3) := by decide +kernel
theorem d_MD_at_65 : decode c_MD_at 65 = .ok (.goto (-33), 3) := by decide +kernel
theorem d_MD_at_68 : decode c_MD_at 68 = .ok (.iconst (-1), 1) := by decide +kernel
theorem d_MD_at_69 : decode c_MD_at 69 = .ok (.ireturn, 1) := by decide +kernel
theorem d_MD_count_0 : decode c_MD_count 0 = .ok (.aload_n 0, 1) := by decide +kernel
theorem d_MD_count_1 : decode c_MD_count 1 = .ok (.iconst 0, 1) := by decide +kernel
theorem d_MD_count_2 : decode c_MD_count 2 = .ok (.putfield 63, 3) := by decide +kernel
theorem d_MD_count_5 : decode c_MD_count 5 = .ok (.iload_n 1, 1) := by decide +kernel
theorem d_MD_count_6 : decode c_MD_count 6 = .ok (.tableswitch 68 0 5 #[38, 43, 48, 53, 58, 63], 38) := by decide +kernel
theorem d_MD_count_44 : decode c_MD_count 44 = .ok (.aload_n 0, 1) := by decide +kernel
theorem d_MD_count_45 : decode c_MD_count 45 = .ok (.getfield 94, 3) := by decide +kernel
theorem d_MD_count_48 : decode c_MD_count 48 = .ok (.ireturn, 1) := by decide +kernel
theorem d_MD_count_49 : decode c_MD_count 49 = .ok (.aload_n 0, 1) := by decide +kernel
theorem d_MD_count_50 : decode c_MD_count 50 = .ok (.getfield 83, 3) := by decide +kernel
theorem d_MD_count_53 : decode c_MD_count 53 = .ok (.ireturn, 1) := by decide +kernel
theorem d_MD_count_54 : decode c_MD_count 54 = .ok (.aload_n 0, 1) := by decide +kernel
theorem d_MD_count_55 : decode c_MD_count 55 = .ok (.getfield 156, 3) := by decide +kernel
theorem d_MD_count_58 : decode c_MD_count 58 = .ok (.ireturn, 1) := by decide +kernel
theorem d_MD_count_59 : decode c_MD_count 59 = .ok (.aload_n 0, 1) := by decide +kernel
theorem d_MD_count_60 : decode c_MD_count 60 = .ok (.getfield 97, 3) := by decide +kernel
theorem d_MD_count_63 : decode c_MD_count 63 = .ok (.ireturn, 1) := by decide +kernel
theorem d_MD_count_64 : decode c_MD_count 64 = .ok (.aload_n 0, 1) := by decide +kernel
theorem d_MD_count_65 : decode c_MD_count 65 = .ok (.getfield 111, 3) := by decide +kernel
theorem d_MD_count_68 : decode c_MD_count 68 = .ok (.ireturn, 1) := by decide +kernel
theorem d_MD_count_69 : decode c_MD_count 69 = .ok (.aload_n 0, 1) := by decide +kernel
theorem d_MD_count_70 : decode c_MD_count 70 = .ok (.getfield 165, 3) := by decide +kernel
theorem d_MD_count_73 : decode c_MD_count 73 = .ok (.ireturn, 1) := by decide +kernel
theorem d_MD_count_74 : decode c_MD_count 74 = .ok (.iconst (-1), 1) := by decide +kernel
theorem d_MD_count_75 : decode c_MD_count 75 = .ok (.ireturn, 1) := by decide +kernel

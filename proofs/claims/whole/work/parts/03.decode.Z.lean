theorem dZ_cell_0 : decode cZ_cell 0 = .ok (.iload_n 1, 1) := by decide +kernel
theorem dZ_cell_1 : decode cZ_cell 1 = .ok (.aload_n 0, 1) := by decide +kernel
theorem dZ_cell_2 : decode cZ_cell 2 = .ok (.arraylength, 1) := by decide +kernel
theorem dZ_cell_3 : decode cZ_cell 3 = .ok (.if_icmp .ge 9, 3) := by decide +kernel
theorem dZ_cell_6 : decode cZ_cell 6 = .ok (.aload_n 0, 1) := by decide +kernel
theorem dZ_cell_7 : decode cZ_cell 7 = .ok (.iload_n 1, 1) := by decide +kernel
theorem dZ_cell_8 : decode cZ_cell 8 = .ok (.iaload, 1) := by decide +kernel
theorem dZ_cell_9 : decode cZ_cell 9 = .ok (.goto 4, 3) := by decide +kernel
theorem dZ_cell_12 : decode cZ_cell 12 = .ok (.iconst 0, 1) := by decide +kernel
theorem dZ_cell_13 : decode cZ_cell 13 = .ok (.ireturn, 1) := by decide +kernel
theorem dZ_law_0 : decode cZ_law 0 = .ok (.new 7, 3) := by decide +kernel
theorem dZ_law_3 : decode cZ_law 3 = .ok (.dup, 1) := by decide +kernel
theorem dZ_law_4 : decode cZ_law 4 = .ok (.aload_n 0, 1) := by decide +kernel
theorem dZ_law_5 : decode cZ_law 5 = .ok (.iconst 0, 1) := by decide +kernel
theorem dZ_law_6 : decode cZ_law 6 = .ok (.invokestatic 9, 3) := by decide +kernel
theorem dZ_law_9 : decode cZ_law 9 = .ok (.invokespecial 15, 3) := by decide +kernel
theorem dZ_law_12 : decode cZ_law 12 = .ok (.astore_n 1, 1) := by decide +kernel
theorem dZ_law_13 : decode cZ_law 13 = .ok (.new 18, 3) := by decide +kernel
theorem dZ_law_16 : decode cZ_law 16 = .ok (.dup, 1) := by decide +kernel
theorem dZ_law_17 : decode cZ_law 17 = .ok (.aload_n 0, 1) := by decide +kernel
theorem dZ_law_18 : decode cZ_law 18 = .ok (.iconst 0, 1) := by decide +kernel
theorem dZ_law_19 : decode cZ_law 19 = .ok (.invokestatic 9, 3) := by decide +kernel
theorem dZ_law_22 : decode cZ_law 22 = .ok (.invokespecial 20, 3) := by decide +kernel
theorem dZ_law_25 : decode cZ_law 25 = .ok (.astore_n 2, 1) := by decide +kernel
theorem dZ_law_26 : decode cZ_law 26 = .ok (.iconst 1, 1) := by decide +kernel
theorem dZ_law_27 : decode cZ_law 27 = .ok (.istore_n 3, 1) := by decide +kernel
theorem dZ_law_28 : decode cZ_law 28 = .ok (.iload_n 3, 1) := by decide +kernel
theorem dZ_law_29 : decode cZ_law 29 = .ok (.aload_n 0, 1) := by decide +kernel
theorem dZ_law_30 : decode cZ_law 30 = .ok (.arraylength, 1) := by decide +kernel
theorem dZ_law_31 : decode cZ_law 31 = .ok (.iconst 4, 1) := by decide +kernel
theorem dZ_law_32 : decode cZ_law 32 = .ok (.isub, 1) := by decide +kernel
theorem dZ_law_33 : decode cZ_law 33 = .ok (.if_icmp .gt 532, 3) := by decide +kernel
theorem dZ_law_36 : decode cZ_law 36 = .ok (.aload_n 0, 1) := by decide +kernel
theorem dZ_law_37 : decode cZ_law 37 = .ok (.iload_n 3, 1) := by decide +kernel
theorem dZ_law_38 : decode cZ_law 38 = .ok (.iaload, 1) := by decide +kernel
theorem dZ_law_39 : decode cZ_law 39 = .ok (.bipush 31, 2) := by decide +kernel
theorem dZ_law_41 : decode cZ_law 41 = .ok (.iand, 1) := by decide +kernel
theorem dZ_law_132 : decode cZ_law 132 = .ok (.aload_n 1, 1) := by decide +kernel
theorem dZ_law_133 : decode cZ_law 133 = .ok (.aload_n 0, 1) := by decide +kernel
theorem dZ_law_134 : decode cZ_law 134 = .ok (.iload_n 3, 1) := by decide +kernel
theorem dZ_law_135 : decode cZ_law 135 = .ok (.iconst 1, 1) := by decide +kernel
theorem dZ_law_136 : decode cZ_law 136 = .ok (.iadd, 1) := by decide +kernel
theorem dZ_law_137 : decode cZ_law 137 = .ok (.iaload, 1) := by decide +kernel
theorem dZ_law_138 : decode cZ_law 138 = .ok (.aload_n 0, 1) := by decide +kernel
theorem dZ_law_139 : decode cZ_law 139 = .ok (.iload_n 3, 1) := by decide +kernel
theorem dZ_law_140 : decode cZ_law 140 = .ok (.iconst 2, 1) := by decide +kernel
theorem dZ_law_141 : decode cZ_law 141 = .ok (.iadd, 1) := by decide +kernel
theorem dZ_law_142 : decode cZ_law 142 = .ok (.iaload, 1) := by decide +kernel
theorem dZ_law_143 : decode cZ_law 143 = .ok (.aload_n 0, 1) := by decide +kernel
theorem dZ_law_144 : decode cZ_law 144 = .ok (.iload_n 3, 1) := by decide +kernel
theorem dZ_law_145 : decode cZ_law 145 = .ok (.iconst 3, 1) := by decide +kernel
theorem dZ_law_146 : decode cZ_law 146 = .ok (.iadd, 1) := by decide +kernel
theorem dZ_law_147 : decode cZ_law 147 = .ok (.iaload, 1) := by decide +kernel
theorem dZ_law_148 : decode cZ_law 148 = .ok (.invokevirtual 21, 3) := by decide +kernel
theorem dZ_law_151 : decode cZ_law 151 = .ok (.aload_n 2, 1) := by decide +kernel
theorem dZ_law_152 : decode cZ_law 152 = .ok (.aload_n 0, 1) := by decide +kernel
theorem dZ_law_153 : decode cZ_law 153 = .ok (.iload_n 3, 1) := by decide +kernel
theorem dZ_law_154 : decode cZ_law 154 = .ok (.iconst 1, 1) := by decide +kernel
theorem dZ_law_155 : decode cZ_law 155 = .ok (.iadd, 1) := by decide +kernel
theorem dZ_law_156 : decode cZ_law 156 = .ok (.iaload, 1) := by decide +kernel
theorem dZ_law_157 : decode cZ_law 157 = .ok (.aload_n 0, 1) := by decide +kernel
theorem dZ_law_158 : decode cZ_law 158 = .ok (.iload_n 3, 1) := by decide +kernel
theorem dZ_law_159 : decode cZ_law 159 = .ok (.iconst 2, 1) := by decide +kernel
theorem dZ_law_160 : decode cZ_law 160 = .ok (.iadd, 1) := by decide +kernel
theorem dZ_law_161 : decode cZ_law 161 = .ok (.iaload, 1) := by decide +kernel
theorem dZ_law_162 : decode cZ_law 162 = .ok (.aload_n 0, 1) := by decide +kernel
theorem dZ_law_163 : decode cZ_law 163 = .ok (.iload_n 3, 1) := by decide +kernel
theorem dZ_law_164 : decode cZ_law 164 = .ok (.iconst 3, 1) := by decide +kernel
theorem dZ_law_165 : decode cZ_law 165 = .ok (.iadd, 1) := by decide +kernel
theorem dZ_law_166 : decode cZ_law 166 = .ok (.iaload, 1) := by decide +kernel
theorem dZ_law_167 : decode cZ_law 167 = .ok (.invokevirtual 25, 3) := by decide +kernel
theorem dZ_law_170 : decode cZ_law 170 = .ok (.if_icmp .eq 389, 3) := by decide +kernel
theorem dZ_law_173 : decode cZ_law 173 = .ok (.iconst 0, 1) := by decide +kernel
theorem dZ_law_174 : decode cZ_law 174 = .ok (.ireturn, 1) := by decide +kernel
theorem dZ_law_175 : decode cZ_law 175 = .ok (.aload_n 1, 1) := by decide +kernel
theorem dZ_law_176 : decode cZ_law 176 = .ok (.aload_n 0, 1) := by decide +kernel
theorem dZ_law_177 : decode cZ_law 177 = .ok (.iload_n 3, 1) := by decide +kernel
theorem dZ_law_178 : decode cZ_law 178 = .ok (.iconst 1, 1) := by decide +kernel
theorem dZ_law_179 : decode cZ_law 179 = .ok (.iadd, 1) := by decide +kernel
theorem dZ_law_180 : decode cZ_law 180 = .ok (.iaload, 1) := by decide +kernel
theorem dZ_law_181 : decode cZ_law 181 = .ok (.aload_n 0, 1) := by decide +kernel
theorem dZ_law_182 : decode cZ_law 182 = .ok (.iload_n 3, 1) := by decide +kernel
theorem dZ_law_183 : decode cZ_law 183 = .ok (.iconst 2, 1) := by decide +kernel
theorem dZ_law_184 : decode cZ_law 184 = .ok (.iadd, 1) := by decide +kernel
theorem dZ_law_185 : decode cZ_law 185 = .ok (.iaload, 1) := by decide +kernel
theorem dZ_law_186 : decode cZ_law 186 = .ok (.invokevirtual 26, 3) := by decide +kernel
theorem dZ_law_189 : decode cZ_law 189 = .ok (.aload_n 2, 1) := by decide +kernel
theorem dZ_law_190 : decode cZ_law 190 = .ok (.aload_n 0, 1) := by decide +kernel
theorem dZ_law_191 : decode cZ_law 191 = .ok (.iload_n 3, 1) := by decide +kernel
theorem dZ_law_192 : decode cZ_law 192 = .ok (.iconst 1, 1) := by decide +kernel
theorem dZ_law_193 : decode cZ_law 193 = .ok (.iadd, 1) := by decide +kernel
theorem dZ_law_194 : decode cZ_law 194 = .ok (.iaload, 1) := by decide +kernel
theorem dZ_law_195 : decode cZ_law 195 = .ok (.aload_n 0, 1) := by decide +kernel
theorem dZ_law_196 : decode cZ_law 196 = .ok (.iload_n 3, 1) := by decide +kernel
theorem dZ_law_197 : decode cZ_law 197 = .ok (.iconst 2, 1) := by decide +kernel
theorem dZ_law_198 : decode cZ_law 198 = .ok (.iadd, 1) := by decide +kernel
theorem dZ_law_199 : decode cZ_law 199 = .ok (.iaload, 1) := by decide +kernel
theorem dZ_law_200 : decode cZ_law 200 = .ok (.invokevirtual 30, 3) := by decide +kernel
theorem dZ_law_203 : decode cZ_law 203 = .ok (.if_icmp .eq 356, 3) := by decide +kernel
theorem dZ_law_206 : decode cZ_law 206 = .ok (.iconst 0, 1) := by decide +kernel
theorem dZ_law_207 : decode cZ_law 207 = .ok (.ireturn, 1) := by decide +kernel
theorem dZ_law_208 : decode cZ_law 208 = .ok (.aload_n 1, 1) := by decide +kernel
theorem dZ_law_209 : decode cZ_law 209 = .ok (.aload_n 0, 1) := by decide +kernel
theorem dZ_law_210 : decode cZ_law 210 = .ok (.iload_n 3, 1) := by decide +kernel
theorem dZ_law_211 : decode cZ_law 211 = .ok (.iconst 1, 1) := by decide +kernel
theorem dZ_law_212 : decode cZ_law 212 = .ok (.iadd, 1) := by decide +kernel
theorem dZ_law_213 : decode cZ_law 213 = .ok (.iaload, 1) := by decide +kernel
theorem dZ_law_214 : decode cZ_law 214 = .ok (.aload_n 0, 1) := by decide +kernel
theorem dZ_law_215 : decode cZ_law 215 = .ok (.iload_n 3, 1) := by decide +kernel
theorem dZ_law_216 : decode cZ_law 216 = .ok (.iconst 2, 1) := by decide +kernel
theorem dZ_law_217 : decode cZ_law 217 = .ok (.iadd, 1) := by decide +kernel
theorem dZ_law_218 : decode cZ_law 218 = .ok (.iaload, 1) := by decide +kernel
theorem dZ_law_219 : decode cZ_law 219 = .ok (.invokevirtual 31, 3) := by decide +kernel
theorem dZ_law_222 : decode cZ_law 222 = .ok (.aload_n 2, 1) := by decide +kernel
theorem dZ_law_223 : decode cZ_law 223 = .ok (.aload_n 0, 1) := by decide +kernel
theorem dZ_law_224 : decode cZ_law 224 = .ok (.iload_n 3, 1) := by decide +kernel
theorem dZ_law_225 : decode cZ_law 225 = .ok (.iconst 1, 1) := by decide +kernel
theorem dZ_law_226 : decode cZ_law 226 = .ok (.iadd, 1) := by decide +kernel
theorem dZ_law_227 : decode cZ_law 227 = .ok (.iaload, 1) := by decide +kernel
theorem dZ_law_228 : decode cZ_law 228 = .ok (.aload_n 0, 1) := by decide +kernel
theorem dZ_law_229 : decode cZ_law 229 = .ok (.iload_n 3, 1) := by decide +kernel
theorem dZ_law_230 : decode cZ_law 230 = .ok (.iconst 2, 1) := by decide +kernel
theorem dZ_law_231 : decode cZ_law 231 = .ok (.iadd, 1) := by decide +kernel
theorem dZ_law_232 : decode cZ_law 232 = .ok (.iaload, 1) := by decide +kernel
theorem dZ_law_233 : decode cZ_law 233 = .ok (.invokevirtual 34, 3) := by decide +kernel
theorem dZ_law_236 : decode cZ_law 236 = .ok (.if_icmp .eq 323, 3) := by decide +kernel
theorem dZ_law_239 : decode cZ_law 239 = .ok (.iconst 0, 1) := by decide +kernel
theorem dZ_law_240 : decode cZ_law 240 = .ok (.ireturn, 1) := by decide +kernel
theorem dZ_law_241 : decode cZ_law 241 = .ok (.aload_n 1, 1) := by decide +kernel
theorem dZ_law_242 : decode cZ_law 242 = .ok (.invokevirtual 35, 3) := by decide +kernel
theorem dZ_law_245 : decode cZ_law 245 = .ok (.aload_n 2, 1) := by decide +kernel
theorem dZ_law_246 : decode cZ_law 246 = .ok (.invokevirtual 39, 3) := by decide +kernel
theorem dZ_law_249 : decode cZ_law 249 = .ok (.if_icmp .eq 310, 3) := by decide +kernel
theorem dZ_law_252 : decode cZ_law 252 = .ok (.iconst 0, 1) := by decide +kernel
theorem dZ_law_253 : decode cZ_law 253 = .ok (.ireturn, 1) := by decide +kernel
theorem dZ_law_254 : decode cZ_law 254 = .ok (.aload_n 1, 1) := by decide +kernel
theorem dZ_law_255 : decode cZ_law 255 = .ok (.aload_n 0, 1) := by decide +kernel
theorem dZ_law_256 : decode cZ_law 256 = .ok (.iload_n 3, 1) := by decide +kernel
theorem dZ_law_257 : decode cZ_law 257 = .ok (.iconst 1, 1) := by decide +kernel
theorem dZ_law_258 : decode cZ_law 258 = .ok (.iadd, 1) := by decide +kernel
theorem dZ_law_259 : decode cZ_law 259 = .ok (.iaload, 1) := by decide +kernel
theorem dZ_law_260 : decode cZ_law 260 = .ok (.invokevirtual 40, 3) := by decide +kernel
theorem dZ_law_263 : decode cZ_law 263 = .ok (.aload_n 2, 1) := by decide +kernel
theorem dZ_law_264 : decode cZ_law 264 = .ok (.aload_n 0, 1) := by decide +kernel
theorem dZ_law_265 : decode cZ_law 265 = .ok (.iload_n 3, 1) := by decide +kernel
theorem dZ_law_266 : decode cZ_law 266 = .ok (.iconst 1, 1) := by decide +kernel
theorem dZ_law_267 : decode cZ_law 267 = .ok (.iadd, 1) := by decide +kernel
theorem dZ_law_268 : decode cZ_law 268 = .ok (.iaload, 1) := by decide +kernel
theorem dZ_law_269 : decode cZ_law 269 = .ok (.invokevirtual 44, 3) := by decide +kernel
theorem dZ_law_272 : decode cZ_law 272 = .ok (.if_icmp .eq 287, 3) := by decide +kernel
theorem dZ_law_275 : decode cZ_law 275 = .ok (.iconst 0, 1) := by decide +kernel
theorem dZ_law_276 : decode cZ_law 276 = .ok (.ireturn, 1) := by decide +kernel
theorem dZ_law_277 : decode cZ_law 277 = .ok (.aload_n 1, 1) := by decide +kernel
theorem dZ_law_278 : decode cZ_law 278 = .ok (.aload_n 0, 1) := by decide +kernel
theorem dZ_law_279 : decode cZ_law 279 = .ok (.iload_n 3, 1) := by decide +kernel
theorem dZ_law_280 : decode cZ_law 280 = .ok (.iconst 1, 1) := by decide +kernel
theorem dZ_law_281 : decode cZ_law 281 = .ok (.iadd, 1) := by decide +kernel
theorem dZ_law_282 : decode cZ_law 282 = .ok (.iaload, 1) := by decide +kernel
theorem dZ_law_283 : decode cZ_law 283 = .ok (.invokevirtual 45, 3) := by decide +kernel
theorem dZ_law_286 : decode cZ_law 286 = .ok (.aload_n 2, 1) := by decide +kernel
theorem dZ_law_287 : decode cZ_law 287 = .ok (.aload_n 0, 1) := by decide +kernel
theorem dZ_law_288 : decode cZ_law 288 = .ok (.iload_n 3, 1) := by decide +kernel
theorem dZ_law_289 : decode cZ_law 289 = .ok (.iconst 1, 1) := by decide +kernel
theorem dZ_law_290 : decode cZ_law 290 = .ok (.iadd, 1) := by decide +kernel
theorem dZ_law_291 : decode cZ_law 291 = .ok (.iaload, 1) := by decide +kernel
theorem dZ_law_292 : decode cZ_law 292 = .ok (.invokevirtual 49, 3) := by decide +kernel
theorem dZ_law_295 : decode cZ_law 295 = .ok (.if_icmp .eq 264, 3) := by decide +kernel
theorem dZ_law_298 : decode cZ_law 298 = .ok (.iconst 0, 1) := by decide +kernel
theorem dZ_law_299 : decode cZ_law 299 = .ok (.ireturn, 1) := by decide +kernel
theorem dZ_law_300 : decode cZ_law 300 = .ok (.aload_n 1, 1) := by decide +kernel
theorem dZ_law_301 : decode cZ_law 301 = .ok (.aload_n 0, 1) := by decide +kernel
theorem dZ_law_302 : decode cZ_law 302 = .ok (.iload_n 3, 1) := by decide +kernel
theorem dZ_law_303 : decode cZ_law 303 = .ok (.iconst 1, 1) := by decide +kernel
theorem dZ_law_304 : decode cZ_law 304 = .ok (.iadd, 1) := by decide +kernel
theorem dZ_law_305 : decode cZ_law 305 = .ok (.iaload, 1) := by decide +kernel
theorem dZ_law_306 : decode cZ_law 306 = .ok (.aload_n 0, 1) := by decide +kernel
theorem dZ_law_307 : decode cZ_law 307 = .ok (.iload_n 3, 1) := by decide +kernel
theorem dZ_law_308 : decode cZ_law 308 = .ok (.iconst 2, 1) := by decide +kernel
theorem dZ_law_309 : decode cZ_law 309 = .ok (.iadd, 1) := by decide +kernel
theorem dZ_law_310 : decode cZ_law 310 = .ok (.iaload, 1) := by decide +kernel
theorem dZ_law_311 : decode cZ_law 311 = .ok (.invokevirtual 50, 3) := by decide +kernel
theorem dZ_law_314 : decode cZ_law 314 = .ok (.aload_n 2, 1) := by decide +kernel
theorem dZ_law_315 : decode cZ_law 315 = .ok (.aload_n 0, 1) := by decide +kernel
theorem dZ_law_316 : decode cZ_law 316 = .ok (.iload_n 3, 1) := by decide +kernel
theorem dZ_law_317 : decode cZ_law 317 = .ok (.iconst 1, 1) := by decide +kernel
theorem dZ_law_318 : decode cZ_law 318 = .ok (.iadd, 1) := by decide +kernel
theorem dZ_law_319 : decode cZ_law 319 = .ok (.iaload, 1) := by decide +kernel
theorem dZ_law_320 : decode cZ_law 320 = .ok (.aload_n 0, 1) := by decide +kernel
theorem dZ_law_321 : decode cZ_law 321 = .ok (.iload_n 3, 1) := by decide +kernel
theorem dZ_law_322 : decode cZ_law 322 = .ok (.iconst 2, 1) := by decide +kernel
theorem dZ_law_323 : decode cZ_law 323 = .ok (.iadd, 1) := by decide +kernel
theorem dZ_law_324 : decode cZ_law 324 = .ok (.iaload, 1) := by decide +kernel
theorem dZ_law_325 : decode cZ_law 325 = .ok (.invokevirtual 54, 3) := by decide +kernel
theorem dZ_law_328 : decode cZ_law 328 = .ok (.if_icmp .eq 231, 3) := by decide +kernel
theorem dZ_law_331 : decode cZ_law 331 = .ok (.iconst 0, 1) := by decide +kernel
theorem dZ_law_332 : decode cZ_law 332 = .ok (.ireturn, 1) := by decide +kernel
theorem dZ_law_333 : decode cZ_law 333 = .ok (.aload_n 1, 1) := by decide +kernel
theorem dZ_law_334 : decode cZ_law 334 = .ok (.aload_n 0, 1) := by decide +kernel
theorem dZ_law_335 : decode cZ_law 335 = .ok (.iload_n 3, 1) := by decide +kernel
theorem dZ_law_336 : decode cZ_law 336 = .ok (.iconst 1, 1) := by decide +kernel
theorem dZ_law_337 : decode cZ_law 337 = .ok (.iadd, 1) := by decide +kernel
theorem dZ_law_338 : decode cZ_law 338 = .ok (.iaload, 1) := by decide +kernel
theorem dZ_law_339 : decode cZ_law 339 = .ok (.invokevirtual 55, 3) := by decide +kernel
theorem dZ_law_342 : decode cZ_law 342 = .ok (.aload_n 2, 1) := by decide +kernel
theorem dZ_law_343 : decode cZ_law 343 = .ok (.aload_n 0, 1) := by decide +kernel
theorem dZ_law_344 : decode cZ_law 344 = .ok (.iload_n 3, 1) := by decide +kernel
theorem dZ_law_345 : decode cZ_law 345 = .ok (.iconst 1, 1) := by decide +kernel
theorem dZ_law_346 : decode cZ_law 346 = .ok (.iadd, 1) := by decide +kernel
theorem dZ_law_347 : decode cZ_law 347 = .ok (.iaload, 1) := by decide +kernel
theorem dZ_law_348 : decode cZ_law 348 = .ok (.invokevirtual 58, 3) := by decide +kernel
theorem dZ_law_351 : decode cZ_law 351 = .ok (.if_icmp .eq 208, 3) := by decide +kernel
theorem dZ_law_354 : decode cZ_law 354 = .ok (.iconst 0, 1) := by decide +kernel
theorem dZ_law_355 : decode cZ_law 355 = .ok (.ireturn, 1) := by decide +kernel
theorem dZ_law_356 : decode cZ_law 356 = .ok (.aload_n 1, 1) := by decide +kernel
theorem dZ_law_357 : decode cZ_law 357 = .ok (.invokevirtual 59, 3) := by decide +kernel
theorem dZ_law_360 : decode cZ_law 360 = .ok (.aload_n 2, 1) := by decide +kernel
theorem dZ_law_361 : decode cZ_law 361 = .ok (.invokevirtual 62, 3) := by decide +kernel
theorem dZ_law_364 : decode cZ_law 364 = .ok (.if_icmp .eq 195, 3) := by decide +kernel
theorem dZ_law_367 : decode cZ_law 367 = .ok (.iconst 0, 1) := by decide +kernel
theorem dZ_law_368 : decode cZ_law 368 = .ok (.ireturn, 1) := by decide +kernel
theorem dZ_law_369 : decode cZ_law 369 = .ok (.aload_n 1, 1) := by decide +kernel
theorem dZ_law_370 : decode cZ_law 370 = .ok (.invokevirtual 63, 3) := by decide +kernel
theorem dZ_law_373 : decode cZ_law 373 = .ok (.aload_n 2, 1) := by decide +kernel
theorem dZ_law_374 : decode cZ_law 374 = .ok (.invokevirtual 66, 3) := by decide +kernel
theorem dZ_law_377 : decode cZ_law 377 = .ok (.if_icmp .eq 182, 3) := by decide +kernel
theorem dZ_law_380 : decode cZ_law 380 = .ok (.iconst 0, 1) := by decide +kernel
theorem dZ_law_381 : decode cZ_law 381 = .ok (.ireturn, 1) := by decide +kernel
theorem dZ_law_382 : decode cZ_law 382 = .ok (.aload_n 1, 1) := by decide +kernel
theorem dZ_law_383 : decode cZ_law 383 = .ok (.invokevirtual 67, 3) := by decide +kernel
theorem dZ_law_386 : decode cZ_law 386 = .ok (.aload_n 2, 1) := by decide +kernel
theorem dZ_law_387 : decode cZ_law 387 = .ok (.invokevirtual 70, 3) := by decide +kernel
theorem dZ_law_390 : decode cZ_law 390 = .ok (.if_icmp .eq 169, 3) := by decide +kernel
theorem dZ_law_393 : decode cZ_law 393 = .ok (.iconst 0, 1) := by decide +kernel
theorem dZ_law_394 : decode cZ_law 394 = .ok (.ireturn, 1) := by decide +kernel
theorem dZ_law_395 : decode cZ_law 395 = .ok (.aload_n 1, 1) := by decide +kernel
theorem dZ_law_396 : decode cZ_law 396 = .ok (.invokevirtual 71, 3) := by decide +kernel
theorem dZ_law_399 : decode cZ_law 399 = .ok (.aload_n 2, 1) := by decide +kernel
theorem dZ_law_400 : decode cZ_law 400 = .ok (.invokevirtual 74, 3) := by decide +kernel
theorem dZ_law_403 : decode cZ_law 403 = .ok (.if_icmp .eq 156, 3) := by decide +kernel
theorem dZ_law_406 : decode cZ_law 406 = .ok (.iconst 0, 1) := by decide +kernel
theorem dZ_law_407 : decode cZ_law 407 = .ok (.ireturn, 1) := by decide +kernel
theorem dZ_law_408 : decode cZ_law 408 = .ok (.aload_n 1, 1) := by decide +kernel
theorem dZ_law_409 : decode cZ_law 409 = .ok (.invokevirtual 75, 3) := by decide +kernel
theorem dZ_law_412 : decode cZ_law 412 = .ok (.aload_n 2, 1) := by decide +kernel
theorem dZ_law_413 : decode cZ_law 413 = .ok (.invokevirtual 78, 3) := by decide +kernel
theorem dZ_law_416 : decode cZ_law 416 = .ok (.if_icmp .eq 143, 3) := by decide +kernel
theorem dZ_law_419 : decode cZ_law 419 = .ok (.iconst 0, 1) := by decide +kernel
theorem dZ_law_420 : decode cZ_law 420 = .ok (.ireturn, 1) := by decide +kernel
theorem dZ_law_421 : decode cZ_law 421 = .ok (.aload_n 1, 1) := by decide +kernel
theorem dZ_law_422 : decode cZ_law 422 = .ok (.invokevirtual 79, 3) := by decide +kernel
theorem dZ_law_425 : decode cZ_law 425 = .ok (.aload_n 2, 1) := by decide +kernel
theorem dZ_law_426 : decode cZ_law 426 = .ok (.invokevirtual 82, 3) := by decide +kernel
theorem dZ_law_429 : decode cZ_law 429 = .ok (.if_icmp .eq 130, 3) := by decide +kernel
theorem dZ_law_432 : decode cZ_law 432 = .ok (.iconst 0, 1) := by decide +kernel
theorem dZ_law_433 : decode cZ_law 433 = .ok (.ireturn, 1) := by decide +kernel
theorem dZ_law_434 : decode cZ_law 434 = .ok (.aload_n 1, 1) := by decide +kernel
theorem dZ_law_435 : decode cZ_law 435 = .ok (.aload_n 0, 1) := by decide +kernel
theorem dZ_law_436 : decode cZ_law 436 = .ok (.iload_n 3, 1) := by decide +kernel
theorem dZ_law_437 : decode cZ_law 437 = .ok (.iconst 1, 1) := by decide +kernel
theorem dZ_law_438 : decode cZ_law 438 = .ok (.iadd, 1) := by decide +kernel
theorem dZ_law_439 : decode cZ_law 439 = .ok (.iaload, 1) := by decide +kernel
theorem dZ_law_440 : decode cZ_law 440 = .ok (.invokevirtual 83, 3) := by decide +kernel
theorem dZ_law_443 : decode cZ_law 443 = .ok (.aload_n 2, 1) := by decide +kernel
theorem dZ_law_444 : decode cZ_law 444 = .ok (.aload_n 0, 1) := by decide +kernel
theorem dZ_law_445 : decode cZ_law 445 = .ok (.iload_n 3, 1) := by decide +kernel
theorem dZ_law_446 : decode cZ_law 446 = .ok (.iconst 1, 1) := by decide +kernel
theorem dZ_law_447 : decode cZ_law 447 = .ok (.iadd, 1) := by decide +kernel
theorem dZ_law_448 : decode cZ_law 448 = .ok (.iaload, 1) := by decide +kernel
theorem dZ_law_449 : decode cZ_law 449 = .ok (.invokevirtual 86, 3) := by decide +kernel
theorem dZ_law_452 : decode cZ_law 452 = .ok (.if_icmp .eq 107, 3) := by decide +kernel
theorem dZ_law_455 : decode cZ_law 455 = .ok (.iconst 0, 1) := by decide +kernel
theorem dZ_law_456 : decode cZ_law 456 = .ok (.ireturn, 1) := by decide +kernel
theorem dZ_law_457 : decode cZ_law 457 = .ok (.aload_n 1, 1) := by decide +kernel
theorem dZ_law_458 : decode cZ_law 458 = .ok (.aload_n 0, 1) := by decide +kernel
theorem dZ_law_459 : decode cZ_law 459 = .ok (.iload_n 3, 1) := by decide +kernel
theorem dZ_law_460 : decode cZ_law 460 = .ok (.iconst 1, 1) := by decide +kernel
theorem dZ_law_461 : decode cZ_law 461 = .ok (.iadd, 1) := by decide +kernel
theorem dZ_law_462 : decode cZ_law 462 = .ok (.iaload, 1) := by decide +kernel
theorem dZ_law_463 : decode cZ_law 463 = .ok (.invokevirtual 87, 3) := by decide +kernel
theorem dZ_law_466 : decode cZ_law 466 = .ok (.aload_n 2, 1) := by decide +kernel
theorem dZ_law_467 : decode cZ_law 467 = .ok (.aload_n 0, 1) := by decide +kernel
theorem dZ_law_468 : decode cZ_law 468 = .ok (.iload_n 3, 1) := by decide +kernel
theorem dZ_law_469 : decode cZ_law 469 = .ok (.iconst 1, 1) := by decide +kernel
theorem dZ_law_470 : decode cZ_law 470 = .ok (.iadd, 1) := by decide +kernel
theorem dZ_law_471 : decode cZ_law 471 = .ok (.iaload, 1) := by decide +kernel
theorem dZ_law_472 : decode cZ_law 472 = .ok (.invokevirtual 90, 3) := by decide +kernel
theorem dZ_law_475 : decode cZ_law 475 = .ok (.if_icmp .eq 84, 3) := by decide +kernel
theorem dZ_law_478 : decode cZ_law 478 = .ok (.iconst 0, 1) := by decide +kernel
theorem dZ_law_479 : decode cZ_law 479 = .ok (.ireturn, 1) := by decide +kernel
theorem dZ_law_480 : decode cZ_law 480 = .ok (.aload_n 1, 1) := by decide +kernel
theorem dZ_law_481 : decode cZ_law 481 = .ok (.aload_n 0, 1) := by decide +kernel
theorem dZ_law_482 : decode cZ_law 482 = .ok (.iload_n 3, 1) := by decide +kernel
theorem dZ_law_483 : decode cZ_law 483 = .ok (.iconst 1, 1) := by decide +kernel
theorem dZ_law_484 : decode cZ_law 484 = .ok (.iadd, 1) := by decide +kernel
theorem dZ_law_485 : decode cZ_law 485 = .ok (.iaload, 1) := by decide +kernel
theorem dZ_law_486 : decode cZ_law 486 = .ok (.invokevirtual 91, 3) := by decide +kernel
theorem dZ_law_489 : decode cZ_law 489 = .ok (.aload_n 2, 1) := by decide +kernel
theorem dZ_law_490 : decode cZ_law 490 = .ok (.aload_n 0, 1) := by decide +kernel
theorem dZ_law_491 : decode cZ_law 491 = .ok (.iload_n 3, 1) := by decide +kernel
theorem dZ_law_492 : decode cZ_law 492 = .ok (.iconst 1, 1) := by decide +kernel
theorem dZ_law_493 : decode cZ_law 493 = .ok (.iadd, 1) := by decide +kernel
theorem dZ_law_494 : decode cZ_law 494 = .ok (.iaload, 1) := by decide +kernel
theorem dZ_law_495 : decode cZ_law 495 = .ok (.invokevirtual 94, 3) := by decide +kernel
theorem dZ_law_498 : decode cZ_law 498 = .ok (.if_icmp .eq 61, 3) := by decide +kernel
theorem dZ_law_501 : decode cZ_law 501 = .ok (.iconst 0, 1) := by decide +kernel
theorem dZ_law_502 : decode cZ_law 502 = .ok (.ireturn, 1) := by decide +kernel
theorem dZ_law_503 : decode cZ_law 503 = .ok (.aload_n 1, 1) := by decide +kernel
theorem dZ_law_504 : decode cZ_law 504 = .ok (.aload_n 0, 1) := by decide +kernel
theorem dZ_law_505 : decode cZ_law 505 = .ok (.iload_n 3, 1) := by decide +kernel
theorem dZ_law_506 : decode cZ_law 506 = .ok (.iconst 1, 1) := by decide +kernel
theorem dZ_law_507 : decode cZ_law 507 = .ok (.iadd, 1) := by decide +kernel
theorem dZ_law_508 : decode cZ_law 508 = .ok (.iaload, 1) := by decide +kernel
theorem dZ_law_509 : decode cZ_law 509 = .ok (.aload_n 0, 1) := by decide +kernel
theorem dZ_law_510 : decode cZ_law 510 = .ok (.iload_n 3, 1) := by decide +kernel
theorem dZ_law_511 : decode cZ_law 511 = .ok (.iconst 2, 1) := by decide +kernel
theorem dZ_law_512 : decode cZ_law 512 = .ok (.iadd, 1) := by decide +kernel
theorem dZ_law_513 : decode cZ_law 513 = .ok (.iaload, 1) := by decide +kernel
theorem dZ_law_514 : decode cZ_law 514 = .ok (.invokevirtual 95, 3) := by decide +kernel
theorem dZ_law_517 : decode cZ_law 517 = .ok (.aload_n 2, 1) := by decide +kernel
theorem dZ_law_518 : decode cZ_law 518 = .ok (.aload_n 0, 1) := by decide +kernel
theorem dZ_law_519 : decode cZ_law 519 = .ok (.iload_n 3, 1) := by decide +kernel
theorem dZ_law_520 : decode cZ_law 520 = .ok (.iconst 1, 1) := by decide +kernel
theorem dZ_law_521 : decode cZ_law 521 = .ok (.iadd, 1) := by decide +kernel
theorem dZ_law_522 : decode cZ_law 522 = .ok (.iaload, 1) := by decide +kernel
theorem dZ_law_523 : decode cZ_law 523 = .ok (.aload_n 0, 1) := by decide +kernel
theorem dZ_law_524 : decode cZ_law 524 = .ok (.iload_n 3, 1) := by decide +kernel
theorem dZ_law_525 : decode cZ_law 525 = .ok (.iconst 2, 1) := by decide +kernel
theorem dZ_law_526 : decode cZ_law 526 = .ok (.iadd, 1) := by decide +kernel
theorem dZ_law_527 : decode cZ_law 527 = .ok (.iaload, 1) := by decide +kernel
theorem dZ_law_528 : decode cZ_law 528 = .ok (.invokevirtual 98, 3) := by decide +kernel
theorem dZ_law_531 : decode cZ_law 531 = .ok (.if_icmp .eq 28, 3) := by decide +kernel
theorem dZ_law_534 : decode cZ_law 534 = .ok (.iconst 0, 1) := by decide +kernel
theorem dZ_law_535 : decode cZ_law 535 = .ok (.ireturn, 1) := by decide +kernel
theorem dZ_law_536 : decode cZ_law 536 = .ok (.aload_n 1, 1) := by decide +kernel
theorem dZ_law_537 : decode cZ_law 537 = .ok (.aload_n 0, 1) := by decide +kernel
theorem dZ_law_538 : decode cZ_law 538 = .ok (.iload_n 3, 1) := by decide +kernel
theorem dZ_law_539 : decode cZ_law 539 = .ok (.iconst 1, 1) := by decide +kernel
theorem dZ_law_540 : decode cZ_law 540 = .ok (.iadd, 1) := by decide +kernel
theorem dZ_law_541 : decode cZ_law 541 = .ok (.iaload, 1) := by decide +kernel
theorem dZ_law_542 : decode cZ_law 542 = .ok (.invokevirtual 99, 3) := by decide +kernel
theorem dZ_law_545 : decode cZ_law 545 = .ok (.aload_n 2, 1) := by decide +kernel
theorem dZ_law_546 : decode cZ_law 546 = .ok (.aload_n 0, 1) := by decide +kernel
theorem dZ_law_547 : decode cZ_law 547 = .ok (.iload_n 3, 1) := by decide +kernel
theorem dZ_law_548 : decode cZ_law 548 = .ok (.iconst 1, 1) := by decide +kernel
theorem dZ_law_549 : decode cZ_law 549 = .ok (.iadd, 1) := by decide +kernel
theorem dZ_law_550 : decode cZ_law 550 = .ok (.iaload, 1) := by decide +kernel
theorem dZ_law_551 : decode cZ_law 551 = .ok (.invokevirtual 102, 3) := by decide +kernel
theorem dZ_law_554 : decode cZ_law 554 = .ok (.if_icmp .eq 5, 3) := by decide +kernel
theorem dZ_law_557 : decode cZ_law 557 = .ok (.iconst 0, 1) := by decide +kernel
theorem dZ_law_558 : decode cZ_law 558 = .ok (.ireturn, 1) := by decide +kernel
theorem dZ_law_559 : decode cZ_law 559 = .ok (.iinc 3 4, 3) := by decide +kernel
theorem dZ_law_562 : decode cZ_law 562 = .ok (.goto (-534), 3) := by decide +kernel
theorem dZ_law_565 : decode cZ_law 565 = .ok (.iconst 1, 1) := by decide +kernel
theorem dZ_law_566 : decode cZ_law 566 = .ok (.ireturn, 1) := by decide +kernel

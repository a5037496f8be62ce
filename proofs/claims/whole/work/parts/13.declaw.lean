-- what the bytes say (written by wip/whole/mknames.py)
theorem dW_law_0 : decode code 0 = .ok (.new 7, 3) := by decide +kernel
theorem dW_law_3 : decode code 3 = .ok (.dup, 1) := by decide +kernel
theorem dW_law_4 : decode code 4 = .ok (.invokespecial 9, 3) := by decide +kernel
theorem dW_law_7 : decode code 7 = .ok (.astore_n 1, 1) := by decide +kernel
theorem dW_law_8 : decode code 8 = .ok (.new 10, 3) := by decide +kernel
theorem dW_law_11 : decode code 11 = .ok (.dup, 1) := by decide +kernel
theorem dW_law_12 : decode code 12 = .ok (.invokespecial 12, 3) := by decide +kernel
theorem dW_law_15 : decode code 15 = .ok (.astore_n 2, 1) := by decide +kernel
theorem dW_law_16 : decode code 16 = .ok (.iconst 0, 1) := by decide +kernel
theorem dW_law_17 : decode code 17 = .ok (.istore_n 3, 1) := by decide +kernel
theorem dW_law_18 : decode code 18 = .ok (.iload_n 3, 1) := by decide +kernel
theorem dW_law_19 : decode code 19 = .ok (.aload_n 0, 1) := by decide +kernel
theorem dW_law_20 : decode code 20 = .ok (.arraylength, 1) := by decide +kernel
theorem dW_law_21 : decode code 21 = .ok (.bipush 6, 2) := by decide +kernel
theorem dW_law_23 : decode code 23 = .ok (.isub, 1) := by decide +kernel
theorem dW_law_24 : decode code 24 = .ok (.if_icmp .gt 884, 3) := by decide +kernel
theorem dW_law_27 : decode code 27 = .ok (.aload_n 0, 1) := by decide +kernel
theorem dW_law_28 : decode code 28 = .ok (.iload_n 3, 1) := by decide +kernel
theorem dW_law_29 : decode code 29 = .ok (.iaload, 1) := by decide +kernel
theorem dW_law_30 : decode code 30 = .ok (.bipush 31, 2) := by decide +kernel
theorem dW_law_32 : decode code 32 = .ok (.iand, 1) := by decide +kernel
theorem dW_law_33 : decode code 33 = .ok (.tableswitch 869 0 19 #[95, 148, 191, 254, 297, 350, 373, 422, 471, 494, 517, 576, 599, 648, 671, 704, 737, 770, 803, 826], 95) := by decide +kernel
theorem dW_law_128 : decode code 128 = .ok (.aload_n 1, 1) := by decide +kernel
theorem dW_law_129 : decode code 129 = .ok (.aload_n 0, 1) := by decide +kernel
theorem dW_law_130 : decode code 130 = .ok (.iload_n 3, 1) := by decide +kernel
theorem dW_law_131 : decode code 131 = .ok (.iconst 1, 1) := by decide +kernel
theorem dW_law_132 : decode code 132 = .ok (.iadd, 1) := by decide +kernel
theorem dW_law_133 : decode code 133 = .ok (.iaload, 1) := by decide +kernel
theorem dW_law_134 : decode code 134 = .ok (.aload_n 0, 1) := by decide +kernel
theorem dW_law_135 : decode code 135 = .ok (.iload_n 3, 1) := by decide +kernel
theorem dW_law_136 : decode code 136 = .ok (.iconst 2, 1) := by decide +kernel
theorem dW_law_137 : decode code 137 = .ok (.iadd, 1) := by decide +kernel
theorem dW_law_138 : decode code 138 = .ok (.iaload, 1) := by decide +kernel
theorem dW_law_139 : decode code 139 = .ok (.aload_n 0, 1) := by decide +kernel
theorem dW_law_140 : decode code 140 = .ok (.iload_n 3, 1) := by decide +kernel
theorem dW_law_141 : decode code 141 = .ok (.iconst 3, 1) := by decide +kernel
theorem dW_law_142 : decode code 142 = .ok (.iadd, 1) := by decide +kernel
theorem dW_law_143 : decode code 143 = .ok (.iaload, 1) := by decide +kernel
theorem dW_law_144 : decode code 144 = .ok (.aload_n 0, 1) := by decide +kernel
theorem dW_law_145 : decode code 145 = .ok (.iload_n 3, 1) := by decide +kernel
theorem dW_law_146 : decode code 146 = .ok (.iconst 4, 1) := by decide +kernel
theorem dW_law_147 : decode code 147 = .ok (.iadd, 1) := by decide +kernel
theorem dW_law_148 : decode code 148 = .ok (.iaload, 1) := by decide +kernel
theorem dW_law_149 : decode code 149 = .ok (.invokevirtual 13, 3) := by decide +kernel
theorem dW_law_152 : decode code 152 = .ok (.aload_n 2, 1) := by decide +kernel
theorem dW_law_153 : decode code 153 = .ok (.aload_n 0, 1) := by decide +kernel
theorem dW_law_154 : decode code 154 = .ok (.iload_n 3, 1) := by decide +kernel
theorem dW_law_155 : decode code 155 = .ok (.iconst 1, 1) := by decide +kernel
theorem dW_law_156 : decode code 156 = .ok (.iadd, 1) := by decide +kernel
theorem dW_law_157 : decode code 157 = .ok (.iaload, 1) := by decide +kernel
theorem dW_law_158 : decode code 158 = .ok (.aload_n 0, 1) := by decide +kernel
theorem dW_law_159 : decode code 159 = .ok (.iload_n 3, 1) := by decide +kernel
theorem dW_law_160 : decode code 160 = .ok (.iconst 2, 1) := by decide +kernel
theorem dW_law_161 : decode code 161 = .ok (.iadd, 1) := by decide +kernel
theorem dW_law_162 : decode code 162 = .ok (.iaload, 1) := by decide +kernel
theorem dW_law_163 : decode code 163 = .ok (.aload_n 0, 1) := by decide +kernel
theorem dW_law_164 : decode code 164 = .ok (.iload_n 3, 1) := by decide +kernel
theorem dW_law_165 : decode code 165 = .ok (.iconst 3, 1) := by decide +kernel
theorem dW_law_166 : decode code 166 = .ok (.iadd, 1) := by decide +kernel
theorem dW_law_167 : decode code 167 = .ok (.iaload, 1) := by decide +kernel
theorem dW_law_168 : decode code 168 = .ok (.aload_n 0, 1) := by decide +kernel
theorem dW_law_169 : decode code 169 = .ok (.iload_n 3, 1) := by decide +kernel
theorem dW_law_170 : decode code 170 = .ok (.iconst 4, 1) := by decide +kernel
theorem dW_law_171 : decode code 171 = .ok (.iadd, 1) := by decide +kernel
theorem dW_law_172 : decode code 172 = .ok (.iaload, 1) := by decide +kernel
theorem dW_law_173 : decode code 173 = .ok (.invokevirtual 17, 3) := by decide +kernel
theorem dW_law_176 : decode code 176 = .ok (.if_icmp .eq 726, 3) := by decide +kernel
theorem dW_law_179 : decode code 179 = .ok (.iconst 0, 1) := by decide +kernel
theorem dW_law_180 : decode code 180 = .ok (.ireturn, 1) := by decide +kernel
theorem dW_law_181 : decode code 181 = .ok (.aload_n 1, 1) := by decide +kernel
theorem dW_law_182 : decode code 182 = .ok (.aload_n 0, 1) := by decide +kernel
theorem dW_law_183 : decode code 183 = .ok (.iload_n 3, 1) := by decide +kernel
theorem dW_law_184 : decode code 184 = .ok (.iconst 1, 1) := by decide +kernel
theorem dW_law_185 : decode code 185 = .ok (.iadd, 1) := by decide +kernel
theorem dW_law_186 : decode code 186 = .ok (.iaload, 1) := by decide +kernel
theorem dW_law_187 : decode code 187 = .ok (.aload_n 0, 1) := by decide +kernel
theorem dW_law_188 : decode code 188 = .ok (.iload_n 3, 1) := by decide +kernel
theorem dW_law_189 : decode code 189 = .ok (.iconst 2, 1) := by decide +kernel
theorem dW_law_190 : decode code 190 = .ok (.iadd, 1) := by decide +kernel
theorem dW_law_191 : decode code 191 = .ok (.iaload, 1) := by decide +kernel
theorem dW_law_192 : decode code 192 = .ok (.aload_n 0, 1) := by decide +kernel
theorem dW_law_193 : decode code 193 = .ok (.iload_n 3, 1) := by decide +kernel
theorem dW_law_194 : decode code 194 = .ok (.iconst 3, 1) := by decide +kernel
theorem dW_law_195 : decode code 195 = .ok (.iadd, 1) := by decide +kernel
theorem dW_law_196 : decode code 196 = .ok (.iaload, 1) := by decide +kernel
theorem dW_law_197 : decode code 197 = .ok (.invokevirtual 18, 3) := by decide +kernel
theorem dW_law_200 : decode code 200 = .ok (.aload_n 2, 1) := by decide +kernel
theorem dW_law_201 : decode code 201 = .ok (.aload_n 0, 1) := by decide +kernel
theorem dW_law_202 : decode code 202 = .ok (.iload_n 3, 1) := by decide +kernel
theorem dW_law_203 : decode code 203 = .ok (.iconst 1, 1) := by decide +kernel
theorem dW_law_204 : decode code 204 = .ok (.iadd, 1) := by decide +kernel
theorem dW_law_205 : decode code 205 = .ok (.iaload, 1) := by decide +kernel
theorem dW_law_206 : decode code 206 = .ok (.aload_n 0, 1) := by decide +kernel
theorem dW_law_207 : decode code 207 = .ok (.iload_n 3, 1) := by decide +kernel
theorem dW_law_208 : decode code 208 = .ok (.iconst 2, 1) := by decide +kernel
theorem dW_law_209 : decode code 209 = .ok (.iadd, 1) := by decide +kernel
theorem dW_law_210 : decode code 210 = .ok (.iaload, 1) := by decide +kernel
theorem dW_law_211 : decode code 211 = .ok (.aload_n 0, 1) := by decide +kernel
theorem dW_law_212 : decode code 212 = .ok (.iload_n 3, 1) := by decide +kernel
theorem dW_law_213 : decode code 213 = .ok (.iconst 3, 1) := by decide +kernel
theorem dW_law_214 : decode code 214 = .ok (.iadd, 1) := by decide +kernel
theorem dW_law_215 : decode code 215 = .ok (.iaload, 1) := by decide +kernel
theorem dW_law_216 : decode code 216 = .ok (.invokevirtual 22, 3) := by decide +kernel
theorem dW_law_219 : decode code 219 = .ok (.if_icmp .eq 683, 3) := by decide +kernel
theorem dW_law_222 : decode code 222 = .ok (.iconst 0, 1) := by decide +kernel
theorem dW_law_223 : decode code 223 = .ok (.ireturn, 1) := by decide +kernel
theorem dW_law_224 : decode code 224 = .ok (.aload_n 1, 1) := by decide +kernel
theorem dW_law_225 : decode code 225 = .ok (.aload_n 0, 1) := by decide +kernel
theorem dW_law_226 : decode code 226 = .ok (.iload_n 3, 1) := by decide +kernel
theorem dW_law_227 : decode code 227 = .ok (.iconst 1, 1) := by decide +kernel
theorem dW_law_228 : decode code 228 = .ok (.iadd, 1) := by decide +kernel
theorem dW_law_229 : decode code 229 = .ok (.iaload, 1) := by decide +kernel
theorem dW_law_230 : decode code 230 = .ok (.aload_n 0, 1) := by decide +kernel
theorem dW_law_231 : decode code 231 = .ok (.iload_n 3, 1) := by decide +kernel
theorem dW_law_232 : decode code 232 = .ok (.iconst 2, 1) := by decide +kernel
theorem dW_law_233 : decode code 233 = .ok (.iadd, 1) := by decide +kernel
theorem dW_law_234 : decode code 234 = .ok (.iaload, 1) := by decide +kernel
theorem dW_law_235 : decode code 235 = .ok (.aload_n 0, 1) := by decide +kernel
theorem dW_law_236 : decode code 236 = .ok (.iload_n 3, 1) := by decide +kernel
theorem dW_law_237 : decode code 237 = .ok (.iconst 3, 1) := by decide +kernel
theorem dW_law_238 : decode code 238 = .ok (.iadd, 1) := by decide +kernel
theorem dW_law_239 : decode code 239 = .ok (.iaload, 1) := by decide +kernel
theorem dW_law_240 : decode code 240 = .ok (.aload_n 0, 1) := by decide +kernel
theorem dW_law_241 : decode code 241 = .ok (.iload_n 3, 1) := by decide +kernel
theorem dW_law_242 : decode code 242 = .ok (.iconst 4, 1) := by decide +kernel
theorem dW_law_243 : decode code 243 = .ok (.iadd, 1) := by decide +kernel
theorem dW_law_244 : decode code 244 = .ok (.iaload, 1) := by decide +kernel
theorem dW_law_245 : decode code 245 = .ok (.aload_n 0, 1) := by decide +kernel
theorem dW_law_246 : decode code 246 = .ok (.iload_n 3, 1) := by decide +kernel
theorem dW_law_247 : decode code 247 = .ok (.iconst 5, 1) := by decide +kernel
theorem dW_law_248 : decode code 248 = .ok (.iadd, 1) := by decide +kernel
theorem dW_law_249 : decode code 249 = .ok (.iaload, 1) := by decide +kernel
theorem dW_law_250 : decode code 250 = .ok (.invokevirtual 23, 3) := by decide +kernel
theorem dW_law_253 : decode code 253 = .ok (.aload_n 2, 1) := by decide +kernel
theorem dW_law_254 : decode code 254 = .ok (.aload_n 0, 1) := by decide +kernel
theorem dW_law_255 : decode code 255 = .ok (.iload_n 3, 1) := by decide +kernel
theorem dW_law_256 : decode code 256 = .ok (.iconst 1, 1) := by decide +kernel
theorem dW_law_257 : decode code 257 = .ok (.iadd, 1) := by decide +kernel
theorem dW_law_258 : decode code 258 = .ok (.iaload, 1) := by decide +kernel
theorem dW_law_259 : decode code 259 = .ok (.aload_n 0, 1) := by decide +kernel
theorem dW_law_260 : decode code 260 = .ok (.iload_n 3, 1) := by decide +kernel
theorem dW_law_261 : decode code 261 = .ok (.iconst 2, 1) := by decide +kernel
theorem dW_law_262 : decode code 262 = .ok (.iadd, 1) := by decide +kernel
theorem dW_law_263 : decode code 263 = .ok (.iaload, 1) := by decide +kernel
theorem dW_law_264 : decode code 264 = .ok (.aload_n 0, 1) := by decide +kernel
theorem dW_law_265 : decode code 265 = .ok (.iload_n 3, 1) := by decide +kernel
theorem dW_law_266 : decode code 266 = .ok (.iconst 3, 1) := by decide +kernel
theorem dW_law_267 : decode code 267 = .ok (.iadd, 1) := by decide +kernel
theorem dW_law_268 : decode code 268 = .ok (.iaload, 1) := by decide +kernel
theorem dW_law_269 : decode code 269 = .ok (.aload_n 0, 1) := by decide +kernel
theorem dW_law_270 : decode code 270 = .ok (.iload_n 3, 1) := by decide +kernel
theorem dW_law_271 : decode code 271 = .ok (.iconst 4, 1) := by decide +kernel
theorem dW_law_272 : decode code 272 = .ok (.iadd, 1) := by decide +kernel
theorem dW_law_273 : decode code 273 = .ok (.iaload, 1) := by decide +kernel
theorem dW_law_274 : decode code 274 = .ok (.aload_n 0, 1) := by decide +kernel
theorem dW_law_275 : decode code 275 = .ok (.iload_n 3, 1) := by decide +kernel
theorem dW_law_276 : decode code 276 = .ok (.iconst 5, 1) := by decide +kernel
theorem dW_law_277 : decode code 277 = .ok (.iadd, 1) := by decide +kernel
theorem dW_law_278 : decode code 278 = .ok (.iaload, 1) := by decide +kernel
theorem dW_law_279 : decode code 279 = .ok (.invokevirtual 27, 3) := by decide +kernel
theorem dW_law_282 : decode code 282 = .ok (.if_icmp .eq 620, 3) := by decide +kernel
theorem dW_law_285 : decode code 285 = .ok (.iconst 0, 1) := by decide +kernel
theorem dW_law_286 : decode code 286 = .ok (.ireturn, 1) := by decide +kernel
theorem dW_law_287 : decode code 287 = .ok (.aload_n 1, 1) := by decide +kernel
theorem dW_law_288 : decode code 288 = .ok (.aload_n 0, 1) := by decide +kernel
theorem dW_law_289 : decode code 289 = .ok (.iload_n 3, 1) := by decide +kernel
theorem dW_law_290 : decode code 290 = .ok (.iconst 1, 1) := by decide +kernel
theorem dW_law_291 : decode code 291 = .ok (.iadd, 1) := by decide +kernel
theorem dW_law_292 : decode code 292 = .ok (.iaload, 1) := by decide +kernel
theorem dW_law_293 : decode code 293 = .ok (.aload_n 0, 1) := by decide +kernel
theorem dW_law_294 : decode code 294 = .ok (.iload_n 3, 1) := by decide +kernel
theorem dW_law_295 : decode code 295 = .ok (.iconst 2, 1) := by decide +kernel
theorem dW_law_296 : decode code 296 = .ok (.iadd, 1) := by decide +kernel
theorem dW_law_297 : decode code 297 = .ok (.iaload, 1) := by decide +kernel
theorem dW_law_298 : decode code 298 = .ok (.aload_n 0, 1) := by decide +kernel
theorem dW_law_299 : decode code 299 = .ok (.iload_n 3, 1) := by decide +kernel
theorem dW_law_300 : decode code 300 = .ok (.iconst 3, 1) := by decide +kernel
theorem dW_law_301 : decode code 301 = .ok (.iadd, 1) := by decide +kernel
theorem dW_law_302 : decode code 302 = .ok (.iaload, 1) := by decide +kernel
theorem dW_law_303 : decode code 303 = .ok (.invokevirtual 28, 3) := by decide +kernel
theorem dW_law_306 : decode code 306 = .ok (.aload_n 2, 1) := by decide +kernel
theorem dW_law_307 : decode code 307 = .ok (.aload_n 0, 1) := by decide +kernel
theorem dW_law_308 : decode code 308 = .ok (.iload_n 3, 1) := by decide +kernel
theorem dW_law_309 : decode code 309 = .ok (.iconst 1, 1) := by decide +kernel
theorem dW_law_310 : decode code 310 = .ok (.iadd, 1) := by decide +kernel
theorem dW_law_311 : decode code 311 = .ok (.iaload, 1) := by decide +kernel
theorem dW_law_312 : decode code 312 = .ok (.aload_n 0, 1) := by decide +kernel
theorem dW_law_313 : decode code 313 = .ok (.iload_n 3, 1) := by decide +kernel
theorem dW_law_314 : decode code 314 = .ok (.iconst 2, 1) := by decide +kernel
theorem dW_law_315 : decode code 315 = .ok (.iadd, 1) := by decide +kernel
theorem dW_law_316 : decode code 316 = .ok (.iaload, 1) := by decide +kernel
theorem dW_law_317 : decode code 317 = .ok (.aload_n 0, 1) := by decide +kernel
theorem dW_law_318 : decode code 318 = .ok (.iload_n 3, 1) := by decide +kernel
theorem dW_law_319 : decode code 319 = .ok (.iconst 3, 1) := by decide +kernel
theorem dW_law_320 : decode code 320 = .ok (.iadd, 1) := by decide +kernel
theorem dW_law_321 : decode code 321 = .ok (.iaload, 1) := by decide +kernel
theorem dW_law_322 : decode code 322 = .ok (.invokevirtual 31, 3) := by decide +kernel
theorem dW_law_325 : decode code 325 = .ok (.if_icmp .eq 577, 3) := by decide +kernel
theorem dW_law_328 : decode code 328 = .ok (.iconst 0, 1) := by decide +kernel
theorem dW_law_329 : decode code 329 = .ok (.ireturn, 1) := by decide +kernel
theorem dW_law_330 : decode code 330 = .ok (.aload_n 1, 1) := by decide +kernel
theorem dW_law_331 : decode code 331 = .ok (.aload_n 0, 1) := by decide +kernel
theorem dW_law_332 : decode code 332 = .ok (.iload_n 3, 1) := by decide +kernel
theorem dW_law_333 : decode code 333 = .ok (.iconst 1, 1) := by decide +kernel
theorem dW_law_334 : decode code 334 = .ok (.iadd, 1) := by decide +kernel
theorem dW_law_335 : decode code 335 = .ok (.iaload, 1) := by decide +kernel
theorem dW_law_336 : decode code 336 = .ok (.aload_n 0, 1) := by decide +kernel
theorem dW_law_337 : decode code 337 = .ok (.iload_n 3, 1) := by decide +kernel
theorem dW_law_338 : decode code 338 = .ok (.iconst 2, 1) := by decide +kernel
theorem dW_law_339 : decode code 339 = .ok (.iadd, 1) := by decide +kernel
theorem dW_law_340 : decode code 340 = .ok (.iaload, 1) := by decide +kernel
theorem dW_law_341 : decode code 341 = .ok (.aload_n 0, 1) := by decide +kernel
theorem dW_law_342 : decode code 342 = .ok (.iload_n 3, 1) := by decide +kernel
theorem dW_law_343 : decode code 343 = .ok (.iconst 3, 1) := by decide +kernel
theorem dW_law_344 : decode code 344 = .ok (.iadd, 1) := by decide +kernel
theorem dW_law_345 : decode code 345 = .ok (.iaload, 1) := by decide +kernel
theorem dW_law_346 : decode code 346 = .ok (.aload_n 0, 1) := by decide +kernel
theorem dW_law_347 : decode code 347 = .ok (.iload_n 3, 1) := by decide +kernel
theorem dW_law_348 : decode code 348 = .ok (.iconst 4, 1) := by decide +kernel
theorem dW_law_349 : decode code 349 = .ok (.iadd, 1) := by decide +kernel
theorem dW_law_350 : decode code 350 = .ok (.iaload, 1) := by decide +kernel
theorem dW_law_351 : decode code 351 = .ok (.invokevirtual 32, 3) := by decide +kernel
theorem dW_law_354 : decode code 354 = .ok (.aload_n 2, 1) := by decide +kernel
theorem dW_law_355 : decode code 355 = .ok (.aload_n 0, 1) := by decide +kernel
theorem dW_law_356 : decode code 356 = .ok (.iload_n 3, 1) := by decide +kernel
theorem dW_law_357 : decode code 357 = .ok (.iconst 1, 1) := by decide +kernel
theorem dW_law_358 : decode code 358 = .ok (.iadd, 1) := by decide +kernel
theorem dW_law_359 : decode code 359 = .ok (.iaload, 1) := by decide +kernel
theorem dW_law_360 : decode code 360 = .ok (.aload_n 0, 1) := by decide +kernel
theorem dW_law_361 : decode code 361 = .ok (.iload_n 3, 1) := by decide +kernel
theorem dW_law_362 : decode code 362 = .ok (.iconst 2, 1) := by decide +kernel
theorem dW_law_363 : decode code 363 = .ok (.iadd, 1) := by decide +kernel
theorem dW_law_364 : decode code 364 = .ok (.iaload, 1) := by decide +kernel
theorem dW_law_365 : decode code 365 = .ok (.aload_n 0, 1) := by decide +kernel
theorem dW_law_366 : decode code 366 = .ok (.iload_n 3, 1) := by decide +kernel
theorem dW_law_367 : decode code 367 = .ok (.iconst 3, 1) := by decide +kernel
theorem dW_law_368 : decode code 368 = .ok (.iadd, 1) := by decide +kernel
theorem dW_law_369 : decode code 369 = .ok (.iaload, 1) := by decide +kernel
theorem dW_law_370 : decode code 370 = .ok (.aload_n 0, 1) := by decide +kernel
theorem dW_law_371 : decode code 371 = .ok (.iload_n 3, 1) := by decide +kernel
theorem dW_law_372 : decode code 372 = .ok (.iconst 4, 1) := by decide +kernel
theorem dW_law_373 : decode code 373 = .ok (.iadd, 1) := by decide +kernel
theorem dW_law_374 : decode code 374 = .ok (.iaload, 1) := by decide +kernel
theorem dW_law_375 : decode code 375 = .ok (.invokevirtual 35, 3) := by decide +kernel
theorem dW_law_378 : decode code 378 = .ok (.if_icmp .eq 524, 3) := by decide +kernel
theorem dW_law_381 : decode code 381 = .ok (.iconst 0, 1) := by decide +kernel
theorem dW_law_382 : decode code 382 = .ok (.ireturn, 1) := by decide +kernel
theorem dW_law_383 : decode code 383 = .ok (.aload_n 1, 1) := by decide +kernel
theorem dW_law_384 : decode code 384 = .ok (.aload_n 0, 1) := by decide +kernel
theorem dW_law_385 : decode code 385 = .ok (.iload_n 3, 1) := by decide +kernel
theorem dW_law_386 : decode code 386 = .ok (.iconst 1, 1) := by decide +kernel
theorem dW_law_387 : decode code 387 = .ok (.iadd, 1) := by decide +kernel
theorem dW_law_388 : decode code 388 = .ok (.iaload, 1) := by decide +kernel
theorem dW_law_389 : decode code 389 = .ok (.invokevirtual 36, 3) := by decide +kernel
theorem dW_law_392 : decode code 392 = .ok (.aload_n 2, 1) := by decide +kernel
theorem dW_law_393 : decode code 393 = .ok (.aload_n 0, 1) := by decide +kernel
theorem dW_law_394 : decode code 394 = .ok (.iload_n 3, 1) := by decide +kernel
theorem dW_law_395 : decode code 395 = .ok (.iconst 1, 1) := by decide +kernel
theorem dW_law_396 : decode code 396 = .ok (.iadd, 1) := by decide +kernel
theorem dW_law_397 : decode code 397 = .ok (.iaload, 1) := by decide +kernel
theorem dW_law_398 : decode code 398 = .ok (.invokevirtual 40, 3) := by decide +kernel
theorem dW_law_401 : decode code 401 = .ok (.if_icmp .eq 501, 3) := by decide +kernel
theorem dW_law_404 : decode code 404 = .ok (.iconst 0, 1) := by decide +kernel
theorem dW_law_405 : decode code 405 = .ok (.ireturn, 1) := by decide +kernel
theorem dW_law_406 : decode code 406 = .ok (.aload_n 1, 1) := by decide +kernel
theorem dW_law_407 : decode code 407 = .ok (.aload_n 0, 1) := by decide +kernel
theorem dW_law_408 : decode code 408 = .ok (.iload_n 3, 1) := by decide +kernel
theorem dW_law_409 : decode code 409 = .ok (.iconst 1, 1) := by decide +kernel
theorem dW_law_410 : decode code 410 = .ok (.iadd, 1) := by decide +kernel
theorem dW_law_411 : decode code 411 = .ok (.iaload, 1) := by decide +kernel
theorem dW_law_412 : decode code 412 = .ok (.aload_n 0, 1) := by decide +kernel
theorem dW_law_413 : decode code 413 = .ok (.iload_n 3, 1) := by decide +kernel
theorem dW_law_414 : decode code 414 = .ok (.iconst 2, 1) := by decide +kernel
theorem dW_law_415 : decode code 415 = .ok (.iadd, 1) := by decide +kernel
theorem dW_law_416 : decode code 416 = .ok (.iaload, 1) := by decide +kernel
theorem dW_law_417 : decode code 417 = .ok (.ifCond .eq 7, 3) := by decide +kernel
theorem dW_law_420 : decode code 420 = .ok (.iconst 1, 1) := by decide +kernel
theorem dW_law_421 : decode code 421 = .ok (.goto 4, 3) := by decide +kernel
theorem dW_law_424 : decode code 424 = .ok (.iconst 0, 1) := by decide +kernel
theorem dW_law_425 : decode code 425 = .ok (.invokevirtual 41, 3) := by decide +kernel
theorem dW_law_428 : decode code 428 = .ok (.aload_n 2, 1) := by decide +kernel
theorem dW_law_429 : decode code 429 = .ok (.aload_n 0, 1) := by decide +kernel
theorem dW_law_430 : decode code 430 = .ok (.iload_n 3, 1) := by decide +kernel
theorem dW_law_431 : decode code 431 = .ok (.iconst 1, 1) := by decide +kernel
theorem dW_law_432 : decode code 432 = .ok (.iadd, 1) := by decide +kernel
theorem dW_law_433 : decode code 433 = .ok (.iaload, 1) := by decide +kernel
theorem dW_law_434 : decode code 434 = .ok (.aload_n 0, 1) := by decide +kernel
theorem dW_law_435 : decode code 435 = .ok (.iload_n 3, 1) := by decide +kernel
theorem dW_law_436 : decode code 436 = .ok (.iconst 2, 1) := by decide +kernel
theorem dW_law_437 : decode code 437 = .ok (.iadd, 1) := by decide +kernel
theorem dW_law_438 : decode code 438 = .ok (.iaload, 1) := by decide +kernel
theorem dW_law_439 : decode code 439 = .ok (.ifCond .eq 7, 3) := by decide +kernel
theorem dW_law_442 : decode code 442 = .ok (.iconst 1, 1) := by decide +kernel
theorem dW_law_443 : decode code 443 = .ok (.goto 4, 3) := by decide +kernel
theorem dW_law_446 : decode code 446 = .ok (.iconst 0, 1) := by decide +kernel
theorem dW_law_447 : decode code 447 = .ok (.invokevirtual 45, 3) := by decide +kernel
theorem dW_law_450 : decode code 450 = .ok (.if_icmp .eq 452, 3) := by decide +kernel
theorem dW_law_453 : decode code 453 = .ok (.iconst 0, 1) := by decide +kernel
theorem dW_law_454 : decode code 454 = .ok (.ireturn, 1) := by decide +kernel
theorem dW_law_455 : decode code 455 = .ok (.aload_n 1, 1) := by decide +kernel
theorem dW_law_456 : decode code 456 = .ok (.aload_n 0, 1) := by decide +kernel
theorem dW_law_457 : decode code 457 = .ok (.iload_n 3, 1) := by decide +kernel
theorem dW_law_458 : decode code 458 = .ok (.iconst 1, 1) := by decide +kernel
theorem dW_law_459 : decode code 459 = .ok (.iadd, 1) := by decide +kernel
theorem dW_law_460 : decode code 460 = .ok (.iaload, 1) := by decide +kernel
theorem dW_law_461 : decode code 461 = .ok (.aload_n 0, 1) := by decide +kernel
theorem dW_law_462 : decode code 462 = .ok (.iload_n 3, 1) := by decide +kernel
theorem dW_law_463 : decode code 463 = .ok (.iconst 2, 1) := by decide +kernel
theorem dW_law_464 : decode code 464 = .ok (.iadd, 1) := by decide +kernel
theorem dW_law_465 : decode code 465 = .ok (.iaload, 1) := by decide +kernel
theorem dW_law_466 : decode code 466 = .ok (.ifCond .eq 7, 3) := by decide +kernel
theorem dW_law_469 : decode code 469 = .ok (.iconst 1, 1) := by decide +kernel
theorem dW_law_470 : decode code 470 = .ok (.goto 4, 3) := by decide +kernel
theorem dW_law_473 : decode code 473 = .ok (.iconst 0, 1) := by decide +kernel
theorem dW_law_474 : decode code 474 = .ok (.invokevirtual 46, 3) := by decide +kernel
theorem dW_law_477 : decode code 477 = .ok (.aload_n 2, 1) := by decide +kernel
theorem dW_law_478 : decode code 478 = .ok (.aload_n 0, 1) := by decide +kernel
theorem dW_law_479 : decode code 479 = .ok (.iload_n 3, 1) := by decide +kernel
theorem dW_law_480 : decode code 480 = .ok (.iconst 1, 1) := by decide +kernel
theorem dW_law_481 : decode code 481 = .ok (.iadd, 1) := by decide +kernel
theorem dW_law_482 : decode code 482 = .ok (.iaload, 1) := by decide +kernel
theorem dW_law_483 : decode code 483 = .ok (.aload_n 0, 1) := by decide +kernel
theorem dW_law_484 : decode code 484 = .ok (.iload_n 3, 1) := by decide +kernel
theorem dW_law_485 : decode code 485 = .ok (.iconst 2, 1) := by decide +kernel
theorem dW_law_486 : decode code 486 = .ok (.iadd, 1) := by decide +kernel
theorem dW_law_487 : decode code 487 = .ok (.iaload, 1) := by decide +kernel
theorem dW_law_488 : decode code 488 = .ok (.ifCond .eq 7, 3) := by decide +kernel
theorem dW_law_491 : decode code 491 = .ok (.iconst 1, 1) := by decide +kernel
theorem dW_law_492 : decode code 492 = .ok (.goto 4, 3) := by decide +kernel
theorem dW_law_495 : decode code 495 = .ok (.iconst 0, 1) := by decide +kernel
theorem dW_law_496 : decode code 496 = .ok (.invokevirtual 49, 3) := by decide +kernel
theorem dW_law_499 : decode code 499 = .ok (.if_icmp .eq 403, 3) := by decide +kernel
theorem dW_law_502 : decode code 502 = .ok (.iconst 0, 1) := by decide +kernel
theorem dW_law_503 : decode code 503 = .ok (.ireturn, 1) := by decide +kernel
theorem dW_law_504 : decode code 504 = .ok (.aload_n 1, 1) := by decide +kernel
theorem dW_law_505 : decode code 505 = .ok (.aload_n 0, 1) := by decide +kernel
theorem dW_law_506 : decode code 506 = .ok (.iload_n 3, 1) := by decide +kernel
theorem dW_law_507 : decode code 507 = .ok (.iconst 1, 1) := by decide +kernel
theorem dW_law_508 : decode code 508 = .ok (.iadd, 1) := by decide +kernel
theorem dW_law_509 : decode code 509 = .ok (.iaload, 1) := by decide +kernel
theorem dW_law_510 : decode code 510 = .ok (.invokevirtual 50, 3) := by decide +kernel
theorem dW_law_513 : decode code 513 = .ok (.aload_n 2, 1) := by decide +kernel
theorem dW_law_514 : decode code 514 = .ok (.aload_n 0, 1) := by decide +kernel
theorem dW_law_515 : decode code 515 = .ok (.iload_n 3, 1) := by decide +kernel
theorem dW_law_516 : decode code 516 = .ok (.iconst 1, 1) := by decide +kernel
theorem dW_law_517 : decode code 517 = .ok (.iadd, 1) := by decide +kernel
theorem dW_law_518 : decode code 518 = .ok (.iaload, 1) := by decide +kernel
theorem dW_law_519 : decode code 519 = .ok (.invokevirtual 54, 3) := by decide +kernel
theorem dW_law_522 : decode code 522 = .ok (.if_icmp .eq 380, 3) := by decide +kernel
theorem dW_law_525 : decode code 525 = .ok (.iconst 0, 1) := by decide +kernel
theorem dW_law_526 : decode code 526 = .ok (.ireturn, 1) := by decide +kernel
theorem dW_law_527 : decode code 527 = .ok (.aload_n 1, 1) := by decide +kernel
theorem dW_law_528 : decode code 528 = .ok (.aload_n 0, 1) := by decide +kernel
theorem dW_law_529 : decode code 529 = .ok (.iload_n 3, 1) := by decide +kernel
theorem dW_law_530 : decode code 530 = .ok (.iconst 1, 1) := by decide +kernel
theorem dW_law_531 : decode code 531 = .ok (.iadd, 1) := by decide +kernel
theorem dW_law_532 : decode code 532 = .ok (.iaload, 1) := by decide +kernel
theorem dW_law_533 : decode code 533 = .ok (.invokevirtual 55, 3) := by decide +kernel
theorem dW_law_536 : decode code 536 = .ok (.aload_n 2, 1) := by decide +kernel
theorem dW_law_537 : decode code 537 = .ok (.aload_n 0, 1) := by decide +kernel
theorem dW_law_538 : decode code 538 = .ok (.iload_n 3, 1) := by decide +kernel
theorem dW_law_539 : decode code 539 = .ok (.iconst 1, 1) := by decide +kernel
theorem dW_law_540 : decode code 540 = .ok (.iadd, 1) := by decide +kernel
theorem dW_law_541 : decode code 541 = .ok (.iaload, 1) := by decide +kernel
theorem dW_law_542 : decode code 542 = .ok (.invokevirtual 58, 3) := by decide +kernel
theorem dW_law_545 : decode code 545 = .ok (.if_icmp .eq 357, 3) := by decide +kernel
theorem dW_law_548 : decode code 548 = .ok (.iconst 0, 1) := by decide +kernel
theorem dW_law_549 : decode code 549 = .ok (.ireturn, 1) := by decide +kernel
theorem dW_law_550 : decode code 550 = .ok (.aload_n 1, 1) := by decide +kernel
theorem dW_law_551 : decode code 551 = .ok (.aload_n 0, 1) := by decide +kernel
theorem dW_law_552 : decode code 552 = .ok (.iload_n 3, 1) := by decide +kernel
theorem dW_law_553 : decode code 553 = .ok (.iconst 1, 1) := by decide +kernel
theorem dW_law_554 : decode code 554 = .ok (.iadd, 1) := by decide +kernel
theorem dW_law_555 : decode code 555 = .ok (.iaload, 1) := by decide +kernel
theorem dW_law_556 : decode code 556 = .ok (.aload_n 0, 1) := by decide +kernel
theorem dW_law_557 : decode code 557 = .ok (.iload_n 3, 1) := by decide +kernel
theorem dW_law_558 : decode code 558 = .ok (.iconst 2, 1) := by decide +kernel
theorem dW_law_559 : decode code 559 = .ok (.iadd, 1) := by decide +kernel
theorem dW_law_560 : decode code 560 = .ok (.iaload, 1) := by decide +kernel
theorem dW_law_561 : decode code 561 = .ok (.aload_n 0, 1) := by decide +kernel
theorem dW_law_562 : decode code 562 = .ok (.iload_n 3, 1) := by decide +kernel
theorem dW_law_563 : decode code 563 = .ok (.iconst 3, 1) := by decide +kernel
theorem dW_law_564 : decode code 564 = .ok (.iadd, 1) := by decide +kernel
theorem dW_law_565 : decode code 565 = .ok (.iaload, 1) := by decide +kernel
theorem dW_law_566 : decode code 566 = .ok (.ifCond .eq 7, 3) := by decide +kernel
theorem dW_law_569 : decode code 569 = .ok (.iconst 1, 1) := by decide +kernel
theorem dW_law_570 : decode code 570 = .ok (.goto 4, 3) := by decide +kernel
theorem dW_law_573 : decode code 573 = .ok (.iconst 0, 1) := by decide +kernel
theorem dW_law_574 : decode code 574 = .ok (.invokevirtual 59, 3) := by decide +kernel
theorem dW_law_577 : decode code 577 = .ok (.aload_n 2, 1) := by decide +kernel
theorem dW_law_578 : decode code 578 = .ok (.aload_n 0, 1) := by decide +kernel
theorem dW_law_579 : decode code 579 = .ok (.iload_n 3, 1) := by decide +kernel
theorem dW_law_580 : decode code 580 = .ok (.iconst 1, 1) := by decide +kernel
theorem dW_law_581 : decode code 581 = .ok (.iadd, 1) := by decide +kernel
theorem dW_law_582 : decode code 582 = .ok (.iaload, 1) := by decide +kernel
theorem dW_law_583 : decode code 583 = .ok (.aload_n 0, 1) := by decide +kernel
theorem dW_law_584 : decode code 584 = .ok (.iload_n 3, 1) := by decide +kernel
theorem dW_law_585 : decode code 585 = .ok (.iconst 2, 1) := by decide +kernel
theorem dW_law_586 : decode code 586 = .ok (.iadd, 1) := by decide +kernel
theorem dW_law_587 : decode code 587 = .ok (.iaload, 1) := by decide +kernel
theorem dW_law_588 : decode code 588 = .ok (.aload_n 0, 1) := by decide +kernel
theorem dW_law_589 : decode code 589 = .ok (.iload_n 3, 1) := by decide +kernel
theorem dW_law_590 : decode code 590 = .ok (.iconst 3, 1) := by decide +kernel
theorem dW_law_591 : decode code 591 = .ok (.iadd, 1) := by decide +kernel
theorem dW_law_592 : decode code 592 = .ok (.iaload, 1) := by decide +kernel
theorem dW_law_593 : decode code 593 = .ok (.ifCond .eq 7, 3) := by decide +kernel
theorem dW_law_596 : decode code 596 = .ok (.iconst 1, 1) := by decide +kernel
theorem dW_law_597 : decode code 597 = .ok (.goto 4, 3) := by decide +kernel
theorem dW_law_600 : decode code 600 = .ok (.iconst 0, 1) := by decide +kernel
theorem dW_law_601 : decode code 601 = .ok (.invokevirtual 63, 3) := by decide +kernel
theorem dW_law_604 : decode code 604 = .ok (.if_icmp .eq 298, 3) := by decide +kernel
theorem dW_law_607 : decode code 607 = .ok (.iconst 0, 1) := by decide +kernel
theorem dW_law_608 : decode code 608 = .ok (.ireturn, 1) := by decide +kernel
theorem dW_law_609 : decode code 609 = .ok (.aload_n 1, 1) := by decide +kernel
theorem dW_law_610 : decode code 610 = .ok (.aload_n 0, 1) := by decide +kernel
theorem dW_law_611 : decode code 611 = .ok (.iload_n 3, 1) := by decide +kernel
theorem dW_law_612 : decode code 612 = .ok (.iconst 1, 1) := by decide +kernel
theorem dW_law_613 : decode code 613 = .ok (.iadd, 1) := by decide +kernel
theorem dW_law_614 : decode code 614 = .ok (.iaload, 1) := by decide +kernel
theorem dW_law_615 : decode code 615 = .ok (.invokevirtual 64, 3) := by decide +kernel
theorem dW_law_618 : decode code 618 = .ok (.aload_n 2, 1) := by decide +kernel
theorem dW_law_619 : decode code 619 = .ok (.aload_n 0, 1) := by decide +kernel
theorem dW_law_620 : decode code 620 = .ok (.iload_n 3, 1) := by decide +kernel
theorem dW_law_621 : decode code 621 = .ok (.iconst 1, 1) := by decide +kernel
theorem dW_law_622 : decode code 622 = .ok (.iadd, 1) := by decide +kernel
theorem dW_law_623 : decode code 623 = .ok (.iaload, 1) := by decide +kernel
theorem dW_law_624 : decode code 624 = .ok (.invokevirtual 67, 3) := by decide +kernel
theorem dW_law_627 : decode code 627 = .ok (.if_icmp .eq 275, 3) := by decide +kernel
theorem dW_law_630 : decode code 630 = .ok (.iconst 0, 1) := by decide +kernel
theorem dW_law_631 : decode code 631 = .ok (.ireturn, 1) := by decide +kernel
theorem dW_law_632 : decode code 632 = .ok (.aload_n 1, 1) := by decide +kernel
theorem dW_law_633 : decode code 633 = .ok (.aload_n 0, 1) := by decide +kernel
theorem dW_law_634 : decode code 634 = .ok (.iload_n 3, 1) := by decide +kernel
theorem dW_law_635 : decode code 635 = .ok (.iconst 1, 1) := by decide +kernel
theorem dW_law_636 : decode code 636 = .ok (.iadd, 1) := by decide +kernel
theorem dW_law_637 : decode code 637 = .ok (.iaload, 1) := by decide +kernel
theorem dW_law_638 : decode code 638 = .ok (.aload_n 0, 1) := by decide +kernel
theorem dW_law_639 : decode code 639 = .ok (.iload_n 3, 1) := by decide +kernel
theorem dW_law_640 : decode code 640 = .ok (.iconst 2, 1) := by decide +kernel
theorem dW_law_641 : decode code 641 = .ok (.iadd, 1) := by decide +kernel
theorem dW_law_642 : decode code 642 = .ok (.iaload, 1) := by decide +kernel
theorem dW_law_643 : decode code 643 = .ok (.ifCond .eq 7, 3) := by decide +kernel
theorem dW_law_646 : decode code 646 = .ok (.iconst 1, 1) := by decide +kernel
theorem dW_law_647 : decode code 647 = .ok (.goto 4, 3) := by decide +kernel
theorem dW_law_650 : decode code 650 = .ok (.iconst 0, 1) := by decide +kernel
theorem dW_law_651 : decode code 651 = .ok (.invokevirtual 68, 3) := by decide +kernel
theorem dW_law_654 : decode code 654 = .ok (.aload_n 2, 1) := by decide +kernel
theorem dW_law_655 : decode code 655 = .ok (.aload_n 0, 1) := by decide +kernel
theorem dW_law_656 : decode code 656 = .ok (.iload_n 3, 1) := by decide +kernel
theorem dW_law_657 : decode code 657 = .ok (.iconst 1, 1) := by decide +kernel
theorem dW_law_658 : decode code 658 = .ok (.iadd, 1) := by decide +kernel
theorem dW_law_659 : decode code 659 = .ok (.iaload, 1) := by decide +kernel
theorem dW_law_660 : decode code 660 = .ok (.aload_n 0, 1) := by decide +kernel
theorem dW_law_661 : decode code 661 = .ok (.iload_n 3, 1) := by decide +kernel
theorem dW_law_662 : decode code 662 = .ok (.iconst 2, 1) := by decide +kernel
theorem dW_law_663 : decode code 663 = .ok (.iadd, 1) := by decide +kernel
theorem dW_law_664 : decode code 664 = .ok (.iaload, 1) := by decide +kernel
theorem dW_law_665 : decode code 665 = .ok (.ifCond .eq 7, 3) := by decide +kernel
theorem dW_law_668 : decode code 668 = .ok (.iconst 1, 1) := by decide +kernel
theorem dW_law_669 : decode code 669 = .ok (.goto 4, 3) := by decide +kernel
theorem dW_law_672 : decode code 672 = .ok (.iconst 0, 1) := by decide +kernel
theorem dW_law_673 : decode code 673 = .ok (.invokevirtual 71, 3) := by decide +kernel
theorem dW_law_676 : decode code 676 = .ok (.if_icmp .eq 226, 3) := by decide +kernel
theorem dW_law_679 : decode code 679 = .ok (.iconst 0, 1) := by decide +kernel
theorem dW_law_680 : decode code 680 = .ok (.ireturn, 1) := by decide +kernel
theorem dW_law_681 : decode code 681 = .ok (.aload_n 1, 1) := by decide +kernel
theorem dW_law_682 : decode code 682 = .ok (.aload_n 0, 1) := by decide +kernel
theorem dW_law_683 : decode code 683 = .ok (.iload_n 3, 1) := by decide +kernel
theorem dW_law_684 : decode code 684 = .ok (.iconst 1, 1) := by decide +kernel
theorem dW_law_685 : decode code 685 = .ok (.iadd, 1) := by decide +kernel
theorem dW_law_686 : decode code 686 = .ok (.iaload, 1) := by decide +kernel
theorem dW_law_687 : decode code 687 = .ok (.invokevirtual 72, 3) := by decide +kernel
theorem dW_law_690 : decode code 690 = .ok (.aload_n 2, 1) := by decide +kernel
theorem dW_law_691 : decode code 691 = .ok (.aload_n 0, 1) := by decide +kernel
theorem dW_law_692 : decode code 692 = .ok (.iload_n 3, 1) := by decide +kernel
theorem dW_law_693 : decode code 693 = .ok (.iconst 1, 1) := by decide +kernel
theorem dW_law_694 : decode code 694 = .ok (.iadd, 1) := by decide +kernel
theorem dW_law_695 : decode code 695 = .ok (.iaload, 1) := by decide +kernel
theorem dW_law_696 : decode code 696 = .ok (.invokevirtual 75, 3) := by decide +kernel
theorem dW_law_699 : decode code 699 = .ok (.if_icmp .eq 203, 3) := by decide +kernel
theorem dW_law_702 : decode code 702 = .ok (.iconst 0, 1) := by decide +kernel
theorem dW_law_703 : decode code 703 = .ok (.ireturn, 1) := by decide +kernel
theorem dW_law_704 : decode code 704 = .ok (.aload_n 1, 1) := by decide +kernel
theorem dW_law_705 : decode code 705 = .ok (.aload_n 0, 1) := by decide +kernel
theorem dW_law_706 : decode code 706 = .ok (.iload_n 3, 1) := by decide +kernel
theorem dW_law_707 : decode code 707 = .ok (.iconst 1, 1) := by decide +kernel
theorem dW_law_708 : decode code 708 = .ok (.iadd, 1) := by decide +kernel
theorem dW_law_709 : decode code 709 = .ok (.iaload, 1) := by decide +kernel
theorem dW_law_710 : decode code 710 = .ok (.aload_n 0, 1) := by decide +kernel
theorem dW_law_711 : decode code 711 = .ok (.iload_n 3, 1) := by decide +kernel
theorem dW_law_712 : decode code 712 = .ok (.iconst 2, 1) := by decide +kernel
theorem dW_law_713 : decode code 713 = .ok (.iadd, 1) := by decide +kernel
theorem dW_law_714 : decode code 714 = .ok (.iaload, 1) := by decide +kernel
theorem dW_law_715 : decode code 715 = .ok (.invokevirtual 76, 3) := by decide +kernel
theorem dW_law_718 : decode code 718 = .ok (.aload_n 2, 1) := by decide +kernel
theorem dW_law_719 : decode code 719 = .ok (.aload_n 0, 1) := by decide +kernel
theorem dW_law_720 : decode code 720 = .ok (.iload_n 3, 1) := by decide +kernel
theorem dW_law_721 : decode code 721 = .ok (.iconst 1, 1) := by decide +kernel
theorem dW_law_722 : decode code 722 = .ok (.iadd, 1) := by decide +kernel
theorem dW_law_723 : decode code 723 = .ok (.iaload, 1) := by decide +kernel
theorem dW_law_724 : decode code 724 = .ok (.aload_n 0, 1) := by decide +kernel
theorem dW_law_725 : decode code 725 = .ok (.iload_n 3, 1) := by decide +kernel
theorem dW_law_726 : decode code 726 = .ok (.iconst 2, 1) := by decide +kernel
theorem dW_law_727 : decode code 727 = .ok (.iadd, 1) := by decide +kernel
theorem dW_law_728 : decode code 728 = .ok (.iaload, 1) := by decide +kernel
theorem dW_law_729 : decode code 729 = .ok (.invokevirtual 80, 3) := by decide +kernel
theorem dW_law_732 : decode code 732 = .ok (.if_icmp .eq 170, 3) := by decide +kernel
theorem dW_law_735 : decode code 735 = .ok (.iconst 0, 1) := by decide +kernel
theorem dW_law_736 : decode code 736 = .ok (.ireturn, 1) := by decide +kernel
theorem dW_law_737 : decode code 737 = .ok (.aload_n 1, 1) := by decide +kernel
theorem dW_law_738 : decode code 738 = .ok (.aload_n 0, 1) := by decide +kernel
theorem dW_law_739 : decode code 739 = .ok (.iload_n 3, 1) := by decide +kernel
theorem dW_law_740 : decode code 740 = .ok (.iconst 1, 1) := by decide +kernel
theorem dW_law_741 : decode code 741 = .ok (.iadd, 1) := by decide +kernel
theorem dW_law_742 : decode code 742 = .ok (.iaload, 1) := by decide +kernel
theorem dW_law_743 : decode code 743 = .ok (.aload_n 0, 1) := by decide +kernel
theorem dW_law_744 : decode code 744 = .ok (.iload_n 3, 1) := by decide +kernel
theorem dW_law_745 : decode code 745 = .ok (.iconst 2, 1) := by decide +kernel
theorem dW_law_746 : decode code 746 = .ok (.iadd, 1) := by decide +kernel
theorem dW_law_747 : decode code 747 = .ok (.iaload, 1) := by decide +kernel
theorem dW_law_748 : decode code 748 = .ok (.invokevirtual 81, 3) := by decide +kernel
theorem dW_law_751 : decode code 751 = .ok (.aload_n 2, 1) := by decide +kernel
theorem dW_law_752 : decode code 752 = .ok (.aload_n 0, 1) := by decide +kernel
theorem dW_law_753 : decode code 753 = .ok (.iload_n 3, 1) := by decide +kernel
theorem dW_law_754 : decode code 754 = .ok (.iconst 1, 1) := by decide +kernel
theorem dW_law_755 : decode code 755 = .ok (.iadd, 1) := by decide +kernel
theorem dW_law_756 : decode code 756 = .ok (.iaload, 1) := by decide +kernel
theorem dW_law_757 : decode code 757 = .ok (.aload_n 0, 1) := by decide +kernel
theorem dW_law_758 : decode code 758 = .ok (.iload_n 3, 1) := by decide +kernel
theorem dW_law_759 : decode code 759 = .ok (.iconst 2, 1) := by decide +kernel
theorem dW_law_760 : decode code 760 = .ok (.iadd, 1) := by decide +kernel
theorem dW_law_761 : decode code 761 = .ok (.iaload, 1) := by decide +kernel
theorem dW_law_762 : decode code 762 = .ok (.invokevirtual 84, 3) := by decide +kernel
theorem dW_law_765 : decode code 765 = .ok (.if_icmp .eq 137, 3) := by decide +kernel
theorem dW_law_768 : decode code 768 = .ok (.iconst 0, 1) := by decide +kernel
theorem dW_law_769 : decode code 769 = .ok (.ireturn, 1) := by decide +kernel
theorem dW_law_770 : decode code 770 = .ok (.aload_n 1, 1) := by decide +kernel
theorem dW_law_771 : decode code 771 = .ok (.aload_n 0, 1) := by decide +kernel
theorem dW_law_772 : decode code 772 = .ok (.iload_n 3, 1) := by decide +kernel
theorem dW_law_773 : decode code 773 = .ok (.iconst 1, 1) := by decide +kernel
theorem dW_law_774 : decode code 774 = .ok (.iadd, 1) := by decide +kernel
theorem dW_law_775 : decode code 775 = .ok (.iaload, 1) := by decide +kernel
theorem dW_law_776 : decode code 776 = .ok (.aload_n 0, 1) := by decide +kernel
theorem dW_law_777 : decode code 777 = .ok (.iload_n 3, 1) := by decide +kernel
theorem dW_law_778 : decode code 778 = .ok (.iconst 2, 1) := by decide +kernel
theorem dW_law_779 : decode code 779 = .ok (.iadd, 1) := by decide +kernel
theorem dW_law_780 : decode code 780 = .ok (.iaload, 1) := by decide +kernel
theorem dW_law_781 : decode code 781 = .ok (.invokevirtual 85, 3) := by decide +kernel
theorem dW_law_784 : decode code 784 = .ok (.aload_n 2, 1) := by decide +kernel
theorem dW_law_785 : decode code 785 = .ok (.aload_n 0, 1) := by decide +kernel
theorem dW_law_786 : decode code 786 = .ok (.iload_n 3, 1) := by decide +kernel
theorem dW_law_787 : decode code 787 = .ok (.iconst 1, 1) := by decide +kernel
theorem dW_law_788 : decode code 788 = .ok (.iadd, 1) := by decide +kernel
theorem dW_law_789 : decode code 789 = .ok (.iaload, 1) := by decide +kernel
theorem dW_law_790 : decode code 790 = .ok (.aload_n 0, 1) := by decide +kernel
theorem dW_law_791 : decode code 791 = .ok (.iload_n 3, 1) := by decide +kernel
theorem dW_law_792 : decode code 792 = .ok (.iconst 2, 1) := by decide +kernel
theorem dW_law_793 : decode code 793 = .ok (.iadd, 1) := by decide +kernel
theorem dW_law_794 : decode code 794 = .ok (.iaload, 1) := by decide +kernel
theorem dW_law_795 : decode code 795 = .ok (.invokevirtual 88, 3) := by decide +kernel
theorem dW_law_798 : decode code 798 = .ok (.if_icmp .eq 104, 3) := by decide +kernel
theorem dW_law_801 : decode code 801 = .ok (.iconst 0, 1) := by decide +kernel
theorem dW_law_802 : decode code 802 = .ok (.ireturn, 1) := by decide +kernel
theorem dW_law_803 : decode code 803 = .ok (.aload_n 1, 1) := by decide +kernel
theorem dW_law_804 : decode code 804 = .ok (.aload_n 0, 1) := by decide +kernel
theorem dW_law_805 : decode code 805 = .ok (.iload_n 3, 1) := by decide +kernel
theorem dW_law_806 : decode code 806 = .ok (.iconst 1, 1) := by decide +kernel
theorem dW_law_807 : decode code 807 = .ok (.iadd, 1) := by decide +kernel
theorem dW_law_808 : decode code 808 = .ok (.iaload, 1) := by decide +kernel
theorem dW_law_809 : decode code 809 = .ok (.aload_n 0, 1) := by decide +kernel
theorem dW_law_810 : decode code 810 = .ok (.iload_n 3, 1) := by decide +kernel
theorem dW_law_811 : decode code 811 = .ok (.iconst 2, 1) := by decide +kernel
theorem dW_law_812 : decode code 812 = .ok (.iadd, 1) := by decide +kernel
theorem dW_law_813 : decode code 813 = .ok (.iaload, 1) := by decide +kernel
theorem dW_law_814 : decode code 814 = .ok (.invokevirtual 89, 3) := by decide +kernel
theorem dW_law_817 : decode code 817 = .ok (.aload_n 2, 1) := by decide +kernel
theorem dW_law_818 : decode code 818 = .ok (.aload_n 0, 1) := by decide +kernel
theorem dW_law_819 : decode code 819 = .ok (.iload_n 3, 1) := by decide +kernel
theorem dW_law_820 : decode code 820 = .ok (.iconst 1, 1) := by decide +kernel
theorem dW_law_821 : decode code 821 = .ok (.iadd, 1) := by decide +kernel
theorem dW_law_822 : decode code 822 = .ok (.iaload, 1) := by decide +kernel
theorem dW_law_823 : decode code 823 = .ok (.aload_n 0, 1) := by decide +kernel
theorem dW_law_824 : decode code 824 = .ok (.iload_n 3, 1) := by decide +kernel
theorem dW_law_825 : decode code 825 = .ok (.iconst 2, 1) := by decide +kernel
theorem dW_law_826 : decode code 826 = .ok (.iadd, 1) := by decide +kernel
theorem dW_law_827 : decode code 827 = .ok (.iaload, 1) := by decide +kernel
theorem dW_law_828 : decode code 828 = .ok (.invokevirtual 92, 3) := by decide +kernel
theorem dW_law_831 : decode code 831 = .ok (.if_icmp .eq 71, 3) := by decide +kernel
theorem dW_law_834 : decode code 834 = .ok (.iconst 0, 1) := by decide +kernel
theorem dW_law_835 : decode code 835 = .ok (.ireturn, 1) := by decide +kernel
theorem dW_law_836 : decode code 836 = .ok (.aload_n 1, 1) := by decide +kernel
theorem dW_law_837 : decode code 837 = .ok (.aload_n 0, 1) := by decide +kernel
theorem dW_law_838 : decode code 838 = .ok (.iload_n 3, 1) := by decide +kernel
theorem dW_law_839 : decode code 839 = .ok (.iconst 1, 1) := by decide +kernel
theorem dW_law_840 : decode code 840 = .ok (.iadd, 1) := by decide +kernel
theorem dW_law_841 : decode code 841 = .ok (.iaload, 1) := by decide +kernel
theorem dW_law_842 : decode code 842 = .ok (.invokevirtual 93, 3) := by decide +kernel
theorem dW_law_845 : decode code 845 = .ok (.aload_n 2, 1) := by decide +kernel
theorem dW_law_846 : decode code 846 = .ok (.aload_n 0, 1) := by decide +kernel
theorem dW_law_847 : decode code 847 = .ok (.iload_n 3, 1) := by decide +kernel
theorem dW_law_848 : decode code 848 = .ok (.iconst 1, 1) := by decide +kernel
theorem dW_law_849 : decode code 849 = .ok (.iadd, 1) := by decide +kernel
theorem dW_law_850 : decode code 850 = .ok (.iaload, 1) := by decide +kernel
theorem dW_law_851 : decode code 851 = .ok (.invokevirtual 96, 3) := by decide +kernel
theorem dW_law_854 : decode code 854 = .ok (.if_icmp .eq 48, 3) := by decide +kernel
theorem dW_law_857 : decode code 857 = .ok (.iconst 0, 1) := by decide +kernel
theorem dW_law_858 : decode code 858 = .ok (.ireturn, 1) := by decide +kernel
theorem dW_law_859 : decode code 859 = .ok (.aload_n 1, 1) := by decide +kernel
theorem dW_law_860 : decode code 860 = .ok (.aload_n 0, 1) := by decide +kernel
theorem dW_law_861 : decode code 861 = .ok (.iload_n 3, 1) := by decide +kernel
theorem dW_law_862 : decode code 862 = .ok (.iconst 1, 1) := by decide +kernel
theorem dW_law_863 : decode code 863 = .ok (.iadd, 1) := by decide +kernel
theorem dW_law_864 : decode code 864 = .ok (.iaload, 1) := by decide +kernel
theorem dW_law_865 : decode code 865 = .ok (.aload_n 0, 1) := by decide +kernel
theorem dW_law_866 : decode code 866 = .ok (.iload_n 3, 1) := by decide +kernel
theorem dW_law_867 : decode code 867 = .ok (.iconst 2, 1) := by decide +kernel
theorem dW_law_868 : decode code 868 = .ok (.iadd, 1) := by decide +kernel
theorem dW_law_869 : decode code 869 = .ok (.iaload, 1) := by decide +kernel
theorem dW_law_870 : decode code 870 = .ok (.aload_n 0, 1) := by decide +kernel
theorem dW_law_871 : decode code 871 = .ok (.iload_n 3, 1) := by decide +kernel
theorem dW_law_872 : decode code 872 = .ok (.iconst 3, 1) := by decide +kernel
theorem dW_law_873 : decode code 873 = .ok (.iadd, 1) := by decide +kernel
theorem dW_law_874 : decode code 874 = .ok (.iaload, 1) := by decide +kernel
theorem dW_law_875 : decode code 875 = .ok (.invokevirtual 97, 3) := by decide +kernel
theorem dW_law_878 : decode code 878 = .ok (.aload_n 2, 1) := by decide +kernel
theorem dW_law_879 : decode code 879 = .ok (.aload_n 0, 1) := by decide +kernel
theorem dW_law_880 : decode code 880 = .ok (.iload_n 3, 1) := by decide +kernel
theorem dW_law_881 : decode code 881 = .ok (.iconst 1, 1) := by decide +kernel
theorem dW_law_882 : decode code 882 = .ok (.iadd, 1) := by decide +kernel
theorem dW_law_883 : decode code 883 = .ok (.iaload, 1) := by decide +kernel
theorem dW_law_884 : decode code 884 = .ok (.aload_n 0, 1) := by decide +kernel
theorem dW_law_885 : decode code 885 = .ok (.iload_n 3, 1) := by decide +kernel
theorem dW_law_886 : decode code 886 = .ok (.iconst 2, 1) := by decide +kernel
theorem dW_law_887 : decode code 887 = .ok (.iadd, 1) := by decide +kernel
theorem dW_law_888 : decode code 888 = .ok (.iaload, 1) := by decide +kernel
theorem dW_law_889 : decode code 889 = .ok (.aload_n 0, 1) := by decide +kernel
theorem dW_law_890 : decode code 890 = .ok (.iload_n 3, 1) := by decide +kernel
theorem dW_law_891 : decode code 891 = .ok (.iconst 3, 1) := by decide +kernel
theorem dW_law_892 : decode code 892 = .ok (.iadd, 1) := by decide +kernel
theorem dW_law_893 : decode code 893 = .ok (.iaload, 1) := by decide +kernel
theorem dW_law_894 : decode code 894 = .ok (.invokevirtual 100, 3) := by decide +kernel
theorem dW_law_897 : decode code 897 = .ok (.if_icmp .eq 5, 3) := by decide +kernel
theorem dW_law_900 : decode code 900 = .ok (.iconst 0, 1) := by decide +kernel
theorem dW_law_901 : decode code 901 = .ok (.ireturn, 1) := by decide +kernel
theorem dW_law_902 : decode code 902 = .ok (.iinc 3 6, 3) := by decide +kernel
theorem dW_law_905 : decode code 905 = .ok (.goto (-887), 3) := by decide +kernel
theorem dW_law_908 : decode code 908 = .ok (.iconst 1, 1) := by decide +kernel
theorem dW_law_909 : decode code 909 = .ok (.ireturn, 1) := by decide +kernel

theorem d_LW_law_0 : decode code 0 = .ok (.new 7, 3) := by decide +kernel
theorem d_LW_law_3 : decode code 3 = .ok (.dup, 1) := by decide +kernel
theorem d_LW_law_4 : decode code 4 = .ok (.invokespecial 9, 3) := by decide +kernel
theorem d_LW_law_7 : decode code 7 = .ok (.astore_n 1, 1) := by decide +kernel
theorem d_LW_law_8 : decode code 8 = .ok (.new 10, 3) := by decide +kernel
theorem d_LW_law_11 : decode code 11 = .ok (.dup, 1) := by decide +kernel
theorem d_LW_law_12 : decode code 12 = .ok (.invokespecial 12, 3) := by decide +kernel
theorem d_LW_law_15 : decode code 15 = .ok (.astore_n 2, 1) := by decide +kernel
theorem d_LW_law_16 : decode code 16 = .ok (.iconst 0, 1) := by decide +kernel
theorem d_LW_law_17 : decode code 17 = .ok (.istore_n 3, 1) := by decide +kernel
theorem d_LW_law_18 : decode code 18 = .ok (.iload_n 3, 1) := by decide +kernel
theorem d_LW_law_19 : decode code 19 = .ok (.aload_n 0, 1) := by decide +kernel
theorem d_LW_law_20 : decode code 20 = .ok (.arraylength, 1) := by decide +kernel
theorem d_LW_law_21 : decode code 21 = .ok (.iconst 5, 1) := by decide +kernel
theorem d_LW_law_22 : decode code 22 = .ok (.isub, 1) := by decide +kernel
theorem d_LW_law_23 : decode code 23 = .ok (.if_icmp .gt 595, 3) := by decide +kernel
theorem d_LW_law_26 : decode code 26 = .ok (.aload_n 0, 1) := by decide +kernel
theorem d_LW_law_27 : decode code 27 = .ok (.iload_n 3, 1) := by decide +kernel
theorem d_LW_law_28 : decode code 28 = .ok (.iaload, 1) := by decide +kernel
theorem d_LW_law_29 : decode code 29 = .ok (.bipush 15, 2) := by decide +kernel
theorem d_LW_law_31 : decode code 31 = .ok (.iand, 1) := by decide +kernel
theorem d_LW_law_32 : decode code 32 = .ok (.tableswitch 580 0 15 #[80, 139, 182, 235, 268, 317, 340, 353, 366, 399, 442, 475, 498, 521, 544, 557], 80) := by decide +kernel
theorem d_LW_law_112 : decode code 112 = .ok (.aload_n 1, 1) := by decide +kernel
theorem d_LW_law_113 : decode code 113 = .ok (.aload_n 0, 1) := by decide +kernel
theorem d_LW_law_114 : decode code 114 = .ok (.iload_n 3, 1) := by decide +kernel
theorem d_LW_law_115 : decode code 115 = .ok (.iconst 1, 1) := by decide +kernel
theorem d_LW_law_116 : decode code 116 = .ok (.iadd, 1) := by decide +kernel
theorem d_LW_law_117 : decode code 117 = .ok (.iaload, 1) := by decide +kernel
theorem d_LW_law_118 : decode code 118 = .ok (.ifCond .eq 7, 3) := by decide +kernel
theorem d_LW_law_121 : decode code 121 = .ok (.iconst 1, 1) := by decide +kernel
theorem d_LW_law_122 : decode code 122 = .ok (.goto 4, 3) := by decide +kernel
theorem d_LW_law_125 : decode code 125 = .ok (.iconst 0, 1) := by decide +kernel
theorem d_LW_law_126 : decode code 126 = .ok (.aload_n 0, 1) := by decide +kernel
theorem d_LW_law_127 : decode code 127 = .ok (.iload_n 3, 1) := by decide +kernel
theorem d_LW_law_128 : decode code 128 = .ok (.iconst 2, 1) := by decide +kernel
theorem d_LW_law_129 : decode code 129 = .ok (.iadd, 1) := by decide +kernel
theorem d_LW_law_130 : decode code 130 = .ok (.iaload, 1) := by decide +kernel
theorem d_LW_law_131 : decode code 131 = .ok (.aload_n 0, 1) := by decide +kernel
theorem d_LW_law_132 : decode code 132 = .ok (.iload_n 3, 1) := by decide +kernel
theorem d_LW_law_133 : decode code 133 = .ok (.iconst 3, 1) := by decide +kernel
theorem d_LW_law_134 : decode code 134 = .ok (.iadd, 1) := by decide +kernel
theorem d_LW_law_135 : decode code 135 = .ok (.iaload, 1) := by decide +kernel
theorem d_LW_law_136 : decode code 136 = .ok (.invokevirtual 13, 3) := by decide +kernel
theorem d_LW_law_139 : decode code 139 = .ok (.aload_n 2, 1) := by decide +kernel
theorem d_LW_law_140 : decode code 140 = .ok (.aload_n 0, 1) := by decide +kernel
theorem d_LW_law_141 : decode code 141 = .ok (.iload_n 3, 1) := by decide +kernel
theorem d_LW_law_142 : decode code 142 = .ok (.iconst 1, 1) := by decide +kernel
theorem d_LW_law_143 : decode code 143 = .ok (.iadd, 1) := by decide +kernel
theorem d_LW_law_144 : decode code 144 = .ok (.iaload, 1) := by decide +kernel
theorem d_LW_law_145 : decode code 145 = .ok (.ifCond .eq 7, 3) := by decide +kernel
theorem d_LW_law_148 : decode code 148 = .ok (.iconst 1, 1) := by decide +kernel
theorem d_LW_law_149 : decode code 149 = .ok (.goto 4, 3) := by decide +kernel
theorem d_LW_law_152 : decode code 152 = .ok (.iconst 0, 1) := by decide +kernel
theorem d_LW_law_153 : decode code 153 = .ok (.aload_n 0, 1) := by decide +kernel
theorem d_LW_law_154 : decode code 154 = .ok (.iload_n 3, 1) := by decide +kernel
theorem d_LW_law_155 : decode code 155 = .ok (.iconst 2, 1) := by decide +kernel
theorem d_LW_law_156 : decode code 156 = .ok (.iadd, 1) := by decide +kernel
theorem d_LW_law_157 : decode code 157 = .ok (.iaload, 1) := by decide +kernel
theorem d_LW_law_158 : decode code 158 = .ok (.aload_n 0, 1) := by decide +kernel
theorem d_LW_law_159 : decode code 159 = .ok (.iload_n 3, 1) := by decide +kernel
theorem d_LW_law_160 : decode code 160 = .ok (.iconst 3, 1) := by decide +kernel
theorem d_LW_law_161 : decode code 161 = .ok (.iadd, 1) := by decide +kernel
theorem d_LW_law_162 : decode code 162 = .ok (.iaload, 1) := by decide +kernel
theorem d_LW_law_163 : decode code 163 = .ok (.invokevirtual 17, 3) := by decide +kernel
theorem d_LW_law_166 : decode code 166 = .ok (.if_icmp .eq 446, 3) := by decide +kernel
theorem d_LW_law_169 : decode code 169 = .ok (.iconst 0, 1) := by decide +kernel
theorem d_LW_law_170 : decode code 170 = .ok (.ireturn, 1) := by decide +kernel
theorem d_LW_law_171 : decode code 171 = .ok (.aload_n 1, 1) := by decide +kernel
theorem d_LW_law_172 : decode code 172 = .ok (.aload_n 0, 1) := by decide +kernel
theorem d_LW_law_173 : decode code 173 = .ok (.iload_n 3, 1) := by decide +kernel
theorem d_LW_law_174 : decode code 174 = .ok (.iconst 1, 1) := by decide +kernel
theorem d_LW_law_175 : decode code 175 = .ok (.iadd, 1) := by decide +kernel
theorem d_LW_law_176 : decode code 176 = .ok (.iaload, 1) := by decide +kernel
theorem d_LW_law_177 : decode code 177 = .ok (.aload_n 0, 1) := by decide +kernel
theorem d_LW_law_178 : decode code 178 = .ok (.iload_n 3, 1) := by decide +kernel
theorem d_LW_law_179 : decode code 179 = .ok (.iconst 2, 1) := by decide +kernel
theorem d_LW_law_180 : decode code 180 = .ok (.iadd, 1) := by decide +kernel
theorem d_LW_law_181 : decode code 181 = .ok (.iaload, 1) := by decide +kernel
theorem d_LW_law_182 : decode code 182 = .ok (.aload_n 0, 1) := by decide +kernel
theorem d_LW_law_183 : decode code 183 = .ok (.iload_n 3, 1) := by decide +kernel
theorem d_LW_law_184 : decode code 184 = .ok (.iconst 3, 1) := by decide +kernel
theorem d_LW_law_185 : decode code 185 = .ok (.iadd, 1) := by decide +kernel
theorem d_LW_law_186 : decode code 186 = .ok (.iaload, 1) := by decide +kernel
theorem d_LW_law_187 : decode code 187 = .ok (.invokevirtual 18, 3) := by decide +kernel
theorem d_LW_law_190 : decode code 190 = .ok (.aload_n 2, 1) := by decide +kernel
theorem d_LW_law_191 : decode code 191 = .ok (.aload_n 0, 1) := by decide +kernel
theorem d_LW_law_192 : decode code 192 = .ok (.iload_n 3, 1) := by decide +kernel
theorem d_LW_law_193 : decode code 193 = .ok (.iconst 1, 1) := by decide +kernel
theorem d_LW_law_194 : decode code 194 = .ok (.iadd, 1) := by decide +kernel
theorem d_LW_law_195 : decode code 195 = .ok (.iaload, 1) := by decide +kernel
theorem d_LW_law_196 : decode code 196 = .ok (.aload_n 0, 1) := by decide +kernel
theorem d_LW_law_197 : decode code 197 = .ok (.iload_n 3, 1) := by decide +kernel
theorem d_LW_law_198 : decode code 198 = .ok (.iconst 2, 1) := by decide +kernel
theorem d_LW_law_199 : decode code 199 = .ok (.iadd, 1) := by decide +kernel
theorem d_LW_law_200 : decode code 200 = .ok (.iaload, 1) := by decide +kernel
theorem d_LW_law_201 : decode code 201 = .ok (.aload_n 0, 1) := by decide +kernel
theorem d_LW_law_202 : decode code 202 = .ok (.iload_n 3, 1) := by decide +kernel
theorem d_LW_law_203 : decode code 203 = .ok (.iconst 3, 1) := by decide +kernel
theorem d_LW_law_204 : decode code 204 = .ok (.iadd, 1) := by decide +kernel
theorem d_LW_law_205 : decode code 205 = .ok (.iaload, 1) := by decide +kernel
theorem d_LW_law_206 : decode code 206 = .ok (.invokevirtual 22, 3) := by decide +kernel
theorem d_LW_law_209 : decode code 209 = .ok (.if_icmp .eq 403, 3) := by decide +kernel
theorem d_LW_law_212 : decode code 212 = .ok (.iconst 0, 1) := by decide +kernel
theorem d_LW_law_213 : decode code 213 = .ok (.ireturn, 1) := by decide +kernel
theorem d_LW_law_214 : decode code 214 = .ok (.aload_n 1, 1) := by decide +kernel
theorem d_LW_law_215 : decode code 215 = .ok (.aload_n 0, 1) := by decide +kernel
theorem d_LW_law_216 : decode code 216 = .ok (.iload_n 3, 1) := by decide +kernel
theorem d_LW_law_217 : decode code 217 = .ok (.iconst 1, 1) := by decide +kernel
theorem d_LW_law_218 : decode code 218 = .ok (.iadd, 1) := by decide +kernel
theorem d_LW_law_219 : decode code 219 = .ok (.iaload, 1) := by decide +kernel
theorem d_LW_law_220 : decode code 220 = .ok (.aload_n 0, 1) := by decide +kernel
theorem d_LW_law_221 : decode code 221 = .ok (.iload_n 3, 1) := by decide +kernel
theorem d_LW_law_222 : decode code 222 = .ok (.iconst 2, 1) := by decide +kernel
theorem d_LW_law_223 : decode code 223 = .ok (.iadd, 1) := by decide +kernel
theorem d_LW_law_224 : decode code 224 = .ok (.iaload, 1) := by decide +kernel
theorem d_LW_law_225 : decode code 225 = .ok (.aload_n 0, 1) := by decide +kernel
theorem d_LW_law_226 : decode code 226 = .ok (.iload_n 3, 1) := by decide +kernel
theorem d_LW_law_227 : decode code 227 = .ok (.iconst 3, 1) := by decide +kernel
theorem d_LW_law_228 : decode code 228 = .ok (.iadd, 1) := by decide +kernel
theorem d_LW_law_229 : decode code 229 = .ok (.iaload, 1) := by decide +kernel
theorem d_LW_law_230 : decode code 230 = .ok (.aload_n 0, 1) := by decide +kernel
theorem d_LW_law_231 : decode code 231 = .ok (.iload_n 3, 1) := by decide +kernel
theorem d_LW_law_232 : decode code 232 = .ok (.iconst 4, 1) := by decide +kernel
theorem d_LW_law_233 : decode code 233 = .ok (.iadd, 1) := by decide +kernel
theorem d_LW_law_234 : decode code 234 = .ok (.iaload, 1) := by decide +kernel
theorem d_LW_law_235 : decode code 235 = .ok (.invokevirtual 23, 3) := by decide +kernel
theorem d_LW_law_238 : decode code 238 = .ok (.aload_n 2, 1) := by decide +kernel
theorem d_LW_law_239 : decode code 239 = .ok (.aload_n 0, 1) := by decide +kernel
theorem d_LW_law_240 : decode code 240 = .ok (.iload_n 3, 1) := by decide +kernel
theorem d_LW_law_241 : decode code 241 = .ok (.iconst 1, 1) := by decide +kernel
theorem d_LW_law_242 : decode code 242 = .ok (.iadd, 1) := by decide +kernel
theorem d_LW_law_243 : decode code 243 = .ok (.iaload, 1) := by decide +kernel
theorem d_LW_law_244 : decode code 244 = .ok (.aload_n 0, 1) := by decide +kernel
theorem d_LW_law_245 : decode code 245 = .ok (.iload_n 3, 1) := by decide +kernel
theorem d_LW_law_246 : decode code 246 = .ok (.iconst 2, 1) := by decide +kernel
theorem d_LW_law_247 : decode code 247 = .ok (.iadd, 1) := by decide +kernel
theorem d_LW_law_248 : decode code 248 = .ok (.iaload, 1) := by decide +kernel
theorem d_LW_law_249 : decode code 249 = .ok (.aload_n 0, 1) := by decide +kernel
theorem d_LW_law_250 : decode code 250 = .ok (.iload_n 3, 1) := by decide +kernel
theorem d_LW_law_251 : decode code 251 = .ok (.iconst 3, 1) := by decide +kernel
theorem d_LW_law_252 : decode code 252 = .ok (.iadd, 1) := by decide +kernel
theorem d_LW_law_253 : decode code 253 = .ok (.iaload, 1) := by decide +kernel
theorem d_LW_law_254 : decode code 254 = .ok (.aload_n 0, 1) := by decide +kernel
theorem d_LW_law_255 : decode code 255 = .ok (.iload_n 3, 1) := by decide +kernel
theorem d_LW_law_256 : decode code 256 = .ok (.iconst 4, 1) := by decide +kernel
theorem d_LW_law_257 : decode code 257 = .ok (.iadd, 1) := by decide +kernel
theorem d_LW_law_258 : decode code 258 = .ok (.iaload, 1) := by decide +kernel
theorem d_LW_law_259 : decode code 259 = .ok (.invokevirtual 27, 3) := by decide +kernel
theorem d_LW_law_262 : decode code 262 = .ok (.if_icmp .eq 350, 3) := by decide +kernel
theorem d_LW_law_265 : decode code 265 = .ok (.iconst 0, 1) := by decide +kernel
theorem d_LW_law_266 : decode code 266 = .ok (.ireturn, 1) := by decide +kernel
theorem d_LW_law_267 : decode code 267 = .ok (.aload_n 1, 1) := by decide +kernel
theorem d_LW_law_268 : decode code 268 = .ok (.aload_n 0, 1) := by decide +kernel
theorem d_LW_law_269 : decode code 269 = .ok (.iload_n 3, 1) := by decide +kernel
theorem d_LW_law_270 : decode code 270 = .ok (.iconst 1, 1) := by decide +kernel
theorem d_LW_law_271 : decode code 271 = .ok (.iadd, 1) := by decide +kernel
theorem d_LW_law_272 : decode code 272 = .ok (.iaload, 1) := by decide +kernel
theorem d_LW_law_273 : decode code 273 = .ok (.aload_n 0, 1) := by decide +kernel
theorem d_LW_law_274 : decode code 274 = .ok (.iload_n 3, 1) := by decide +kernel
theorem d_LW_law_275 : decode code 275 = .ok (.iconst 2, 1) := by decide +kernel
theorem d_LW_law_276 : decode code 276 = .ok (.iadd, 1) := by decide +kernel
theorem d_LW_law_277 : decode code 277 = .ok (.iaload, 1) := by decide +kernel
theorem d_LW_law_278 : decode code 278 = .ok (.invokevirtual 28, 3) := by decide +kernel
theorem d_LW_law_281 : decode code 281 = .ok (.aload_n 2, 1) := by decide +kernel
theorem d_LW_law_282 : decode code 282 = .ok (.aload_n 0, 1) := by decide +kernel
theorem d_LW_law_283 : decode code 283 = .ok (.iload_n 3, 1) := by decide +kernel
theorem d_LW_law_284 : decode code 284 = .ok (.iconst 1, 1) := by decide +kernel
theorem d_LW_law_285 : decode code 285 = .ok (.iadd, 1) := by decide +kernel
theorem d_LW_law_286 : decode code 286 = .ok (.iaload, 1) := by decide +kernel
theorem d_LW_law_287 : decode code 287 = .ok (.aload_n 0, 1) := by decide +kernel
theorem d_LW_law_288 : decode code 288 = .ok (.iload_n 3, 1) := by decide +kernel
theorem d_LW_law_289 : decode code 289 = .ok (.iconst 2, 1) := by decide +kernel
theorem d_LW_law_290 : decode code 290 = .ok (.iadd, 1) := by decide +kernel
theorem d_LW_law_291 : decode code 291 = .ok (.iaload, 1) := by decide +kernel
theorem d_LW_law_292 : decode code 292 = .ok (.invokevirtual 32, 3) := by decide +kernel
theorem d_LW_law_295 : decode code 295 = .ok (.if_icmp .eq 317, 3) := by decide +kernel
theorem d_LW_law_298 : decode code 298 = .ok (.iconst 0, 1) := by decide +kernel
theorem d_LW_law_299 : decode code 299 = .ok (.ireturn, 1) := by decide +kernel
theorem d_LW_law_300 : decode code 300 = .ok (.aload_n 1, 1) := by decide +kernel
theorem d_LW_law_301 : decode code 301 = .ok (.aload_n 0, 1) := by decide +kernel
theorem d_LW_law_302 : decode code 302 = .ok (.iload_n 3, 1) := by decide +kernel
theorem d_LW_law_303 : decode code 303 = .ok (.iconst 1, 1) := by decide +kernel
theorem d_LW_law_304 : decode code 304 = .ok (.iadd, 1) := by decide +kernel
theorem d_LW_law_305 : decode code 305 = .ok (.iaload, 1) := by decide +kernel
theorem d_LW_law_306 : decode code 306 = .ok (.aload_n 0, 1) := by decide +kernel
theorem d_LW_law_307 : decode code 307 = .ok (.iload_n 3, 1) := by decide +kernel
theorem d_LW_law_308 : decode code 308 = .ok (.iconst 2, 1) := by decide +kernel
theorem d_LW_law_309 : decode code 309 = .ok (.iadd, 1) := by decide +kernel
theorem d_LW_law_310 : decode code 310 = .ok (.iaload, 1) := by decide +kernel
theorem d_LW_law_311 : decode code 311 = .ok (.ifCond .eq 7, 3) := by decide +kernel
theorem d_LW_law_314 : decode code 314 = .ok (.iconst 1, 1) := by decide +kernel
theorem d_LW_law_315 : decode code 315 = .ok (.goto 4, 3) := by decide +kernel
theorem d_LW_law_318 : decode code 318 = .ok (.iconst 0, 1) := by decide +kernel
theorem d_LW_law_319 : decode code 319 = .ok (.invokevirtual 33, 3) := by decide +kernel
theorem d_LW_law_322 : decode code 322 = .ok (.aload_n 2, 1) := by decide +kernel
theorem d_LW_law_323 : decode code 323 = .ok (.aload_n 0, 1) := by decide +kernel
theorem d_LW_law_324 : decode code 324 = .ok (.iload_n 3, 1) := by decide +kernel
theorem d_LW_law_325 : decode code 325 = .ok (.iconst 1, 1) := by decide +kernel
theorem d_LW_law_326 : decode code 326 = .ok (.iadd, 1) := by decide +kernel
theorem d_LW_law_327 : decode code 327 = .ok (.iaload, 1) := by decide +kernel
theorem d_LW_law_328 : decode code 328 = .ok (.aload_n 0, 1) := by decide +kernel
theorem d_LW_law_329 : decode code 329 = .ok (.iload_n 3, 1) := by decide +kernel
theorem d_LW_law_330 : decode code 330 = .ok (.iconst 2, 1) := by decide +kernel
theorem d_LW_law_331 : decode code 331 = .ok (.iadd, 1) := by decide +kernel
theorem d_LW_law_332 : decode code 332 = .ok (.iaload, 1) := by decide +kernel
theorem d_LW_law_333 : decode code 333 = .ok (.ifCond .eq 7, 3) := by decide +kernel
theorem d_LW_law_336 : decode code 336 = .ok (.iconst 1, 1) := by decide +kernel
theorem d_LW_law_337 : decode code 337 = .ok (.goto 4, 3) := by decide +kernel
theorem d_LW_law_340 : decode code 340 = .ok (.iconst 0, 1) := by decide +kernel
theorem d_LW_law_341 : decode code 341 = .ok (.invokevirtual 37, 3) := by decide +kernel
theorem d_LW_law_344 : decode code 344 = .ok (.if_icmp .eq 268, 3) := by decide +kernel
theorem d_LW_law_347 : decode code 347 = .ok (.iconst 0, 1) := by decide +kernel
theorem d_LW_law_348 : decode code 348 = .ok (.ireturn, 1) := by decide +kernel
theorem d_LW_law_349 : decode code 349 = .ok (.aload_n 1, 1) := by decide +kernel
theorem d_LW_law_350 : decode code 350 = .ok (.aload_n 0, 1) := by decide +kernel
theorem d_LW_law_351 : decode code 351 = .ok (.iload_n 3, 1) := by decide +kernel
theorem d_LW_law_352 : decode code 352 = .ok (.iconst 1, 1) := by decide +kernel
theorem d_LW_law_353 : decode code 353 = .ok (.iadd, 1) := by decide +kernel
theorem d_LW_law_354 : decode code 354 = .ok (.iaload, 1) := by decide +kernel
theorem d_LW_law_355 : decode code 355 = .ok (.invokevirtual 38, 3) := by decide +kernel
theorem d_LW_law_358 : decode code 358 = .ok (.aload_n 2, 1) := by decide +kernel
theorem d_LW_law_359 : decode code 359 = .ok (.aload_n 0, 1) := by decide +kernel
theorem d_LW_law_360 : decode code 360 = .ok (.iload_n 3, 1) := by decide +kernel
theorem d_LW_law_361 : decode code 361 = .ok (.iconst 1, 1) := by decide +kernel
theorem d_LW_law_362 : decode code 362 = .ok (.iadd, 1) := by decide +kernel
theorem d_LW_law_363 : decode code 363 = .ok (.iaload, 1) := by decide +kernel
theorem d_LW_law_364 : decode code 364 = .ok (.invokevirtual 42, 3) := by decide +kernel
theorem d_LW_law_367 : decode code 367 = .ok (.if_icmp .eq 245, 3) := by decide +kernel
theorem d_LW_law_370 : decode code 370 = .ok (.iconst 0, 1) := by decide +kernel
theorem d_LW_law_371 : decode code 371 = .ok (.ireturn, 1) := by decide +kernel
theorem d_LW_law_372 : decode code 372 = .ok (.aload_n 1, 1) := by decide +kernel
theorem d_LW_law_373 : decode code 373 = .ok (.invokevirtual 43, 3) := by decide +kernel
theorem d_LW_law_376 : decode code 376 = .ok (.aload_n 2, 1) := by decide +kernel
theorem d_LW_law_377 : decode code 377 = .ok (.invokevirtual 47, 3) := by decide +kernel
theorem d_LW_law_380 : decode code 380 = .ok (.if_icmp .eq 232, 3) := by decide +kernel
theorem d_LW_law_383 : decode code 383 = .ok (.iconst 0, 1) := by decide +kernel
theorem d_LW_law_384 : decode code 384 = .ok (.ireturn, 1) := by decide +kernel
theorem d_LW_law_385 : decode code 385 = .ok (.aload_n 1, 1) := by decide +kernel
theorem d_LW_law_386 : decode code 386 = .ok (.invokevirtual 48, 3) := by decide +kernel
theorem d_LW_law_389 : decode code 389 = .ok (.aload_n 2, 1) := by decide +kernel
theorem d_LW_law_390 : decode code 390 = .ok (.invokevirtual 51, 3) := by decide +kernel
theorem d_LW_law_393 : decode code 393 = .ok (.if_icmp .eq 219, 3) := by decide +kernel
theorem d_LW_law_396 : decode code 396 = .ok (.iconst 0, 1) := by decide +kernel
theorem d_LW_law_397 : decode code 397 = .ok (.ireturn, 1) := by decide +kernel
theorem d_LW_law_398 : decode code 398 = .ok (.aload_n 1, 1) := by decide +kernel
theorem d_LW_law_399 : decode code 399 = .ok (.aload_n 0, 1) := by decide +kernel
theorem d_LW_law_400 : decode code 400 = .ok (.iload_n 3, 1) := by decide +kernel
theorem d_LW_law_401 : decode code 401 = .ok (.iconst 1, 1) := by decide +kernel
theorem d_LW_law_402 : decode code 402 = .ok (.iadd, 1) := by decide +kernel
theorem d_LW_law_403 : decode code 403 = .ok (.iaload, 1) := by decide +kernel
theorem d_LW_law_404 : decode code 404 = .ok (.aload_n 0, 1) := by decide +kernel
theorem d_LW_law_405 : decode code 405 = .ok (.iload_n 3, 1) := by decide +kernel
theorem d_LW_law_406 : decode code 406 = .ok (.iconst 2, 1) := by decide +kernel
theorem d_LW_law_407 : decode code 407 = .ok (.iadd, 1) := by decide +kernel
theorem d_LW_law_408 : decode code 408 = .ok (.iaload, 1) := by decide +kernel
theorem d_LW_law_409 : decode code 409 = .ok (.invokevirtual 52, 3) := by decide +kernel
theorem d_LW_law_412 : decode code 412 = .ok (.aload_n 2, 1) := by decide +kernel
theorem d_LW_law_413 : decode code 413 = .ok (.aload_n 0, 1) := by decide +kernel
theorem d_LW_law_414 : decode code 414 = .ok (.iload_n 3, 1) := by decide +kernel
theorem d_LW_law_415 : decode code 415 = .ok (.iconst 1, 1) := by decide +kernel
theorem d_LW_law_416 : decode code 416 = .ok (.iadd, 1) := by decide +kernel
theorem d_LW_law_417 : decode code 417 = .ok (.iaload, 1) := by decide +kernel
theorem d_LW_law_418 : decode code 418 = .ok (.aload_n 0, 1) := by decide +kernel
theorem d_LW_law_419 : decode code 419 = .ok (.iload_n 3, 1) := by decide +kernel
theorem d_LW_law_420 : decode code 420 = .ok (.iconst 2, 1) := by decide +kernel
theorem d_LW_law_421 : decode code 421 = .ok (.iadd, 1) := by decide +kernel
theorem d_LW_law_422 : decode code 422 = .ok (.iaload, 1) := by decide +kernel
theorem d_LW_law_423 : decode code 423 = .ok (.invokevirtual 56, 3) := by decide +kernel
theorem d_LW_law_426 : decode code 426 = .ok (.if_icmp .eq 186, 3) := by decide +kernel
theorem d_LW_law_429 : decode code 429 = .ok (.iconst 0, 1) := by decide +kernel
theorem d_LW_law_430 : decode code 430 = .ok (.ireturn, 1) := by decide +kernel
theorem d_LW_law_431 : decode code 431 = .ok (.aload_n 1, 1) := by decide +kernel
theorem d_LW_law_432 : decode code 432 = .ok (.aload_n 0, 1) := by decide +kernel
theorem d_LW_law_433 : decode code 433 = .ok (.iload_n 3, 1) := by decide +kernel
theorem d_LW_law_434 : decode code 434 = .ok (.iconst 1, 1) := by decide +kernel
theorem d_LW_law_435 : decode code 435 = .ok (.iadd, 1) := by decide +kernel
theorem d_LW_law_436 : decode code 436 = .ok (.iaload, 1) := by decide +kernel
theorem d_LW_law_437 : decode code 437 = .ok (.aload_n 0, 1) := by decide +kernel
theorem d_LW_law_438 : decode code 438 = .ok (.iload_n 3, 1) := by decide +kernel
theorem d_LW_law_439 : decode code 439 = .ok (.iconst 2, 1) := by decide +kernel
theorem d_LW_law_440 : decode code 440 = .ok (.iadd, 1) := by decide +kernel
theorem d_LW_law_441 : decode code 441 = .ok (.iaload, 1) := by decide +kernel
theorem d_LW_law_442 : decode code 442 = .ok (.aload_n 0, 1) := by decide +kernel
theorem d_LW_law_443 : decode code 443 = .ok (.iload_n 3, 1) := by decide +kernel
theorem d_LW_law_444 : decode code 444 = .ok (.iconst 3, 1) := by decide +kernel
theorem d_LW_law_445 : decode code 445 = .ok (.iadd, 1) := by decide +kernel
theorem d_LW_law_446 : decode code 446 = .ok (.iaload, 1) := by decide +kernel
theorem d_LW_law_447 : decode code 447 = .ok (.invokevirtual 57, 3) := by decide +kernel
theorem d_LW_law_450 : decode code 450 = .ok (.aload_n 2, 1) := by decide +kernel
theorem d_LW_law_451 : decode code 451 = .ok (.aload_n 0, 1) := by decide +kernel
theorem d_LW_law_452 : decode code 452 = .ok (.iload_n 3, 1) := by decide +kernel
theorem d_LW_law_453 : decode code 453 = .ok (.iconst 1, 1) := by decide +kernel
theorem d_LW_law_454 : decode code 454 = .ok (.iadd, 1) := by decide +kernel
theorem d_LW_law_455 : decode code 455 = .ok (.iaload, 1) := by decide +kernel
theorem d_LW_law_456 : decode code 456 = .ok (.aload_n 0, 1) := by decide +kernel
theorem d_LW_law_457 : decode code 457 = .ok (.iload_n 3, 1) := by decide +kernel
theorem d_LW_law_458 : decode code 458 = .ok (.iconst 2, 1) := by decide +kernel
theorem d_LW_law_459 : decode code 459 = .ok (.iadd, 1) := by decide +kernel
theorem d_LW_law_460 : decode code 460 = .ok (.iaload, 1) := by decide +kernel
theorem d_LW_law_461 : decode code 461 = .ok (.aload_n 0, 1) := by decide +kernel
theorem d_LW_law_462 : decode code 462 = .ok (.iload_n 3, 1) := by decide +kernel
theorem d_LW_law_463 : decode code 463 = .ok (.iconst 3, 1) := by decide +kernel
theorem d_LW_law_464 : decode code 464 = .ok (.iadd, 1) := by decide +kernel
theorem d_LW_law_465 : decode code 465 = .ok (.iaload, 1) := by decide +kernel
theorem d_LW_law_466 : decode code 466 = .ok (.invokevirtual 61, 3) := by decide +kernel
theorem d_LW_law_469 : decode code 469 = .ok (.if_icmp .eq 143, 3) := by decide +kernel
theorem d_LW_law_472 : decode code 472 = .ok (.iconst 0, 1) := by decide +kernel
theorem d_LW_law_473 : decode code 473 = .ok (.ireturn, 1) := by decide +kernel
theorem d_LW_law_474 : decode code 474 = .ok (.aload_n 1, 1) := by decide +kernel
theorem d_LW_law_475 : decode code 475 = .ok (.aload_n 0, 1) := by decide +kernel
theorem d_LW_law_476 : decode code 476 = .ok (.iload_n 3, 1) := by decide +kernel
theorem d_LW_law_477 : decode code 477 = .ok (.iconst 1, 1) := by decide +kernel
theorem d_LW_law_478 : decode code 478 = .ok (.iadd, 1) := by decide +kernel
theorem d_LW_law_479 : decode code 479 = .ok (.iaload, 1) := by decide +kernel
theorem d_LW_law_480 : decode code 480 = .ok (.aload_n 0, 1) := by decide +kernel
theorem d_LW_law_481 : decode code 481 = .ok (.iload_n 3, 1) := by decide +kernel
theorem d_LW_law_482 : decode code 482 = .ok (.iconst 2, 1) := by decide +kernel
theorem d_LW_law_483 : decode code 483 = .ok (.iadd, 1) := by decide +kernel
theorem d_LW_law_484 : decode code 484 = .ok (.iaload, 1) := by decide +kernel
theorem d_LW_law_485 : decode code 485 = .ok (.invokevirtual 62, 3) := by decide +kernel
theorem d_LW_law_488 : decode code 488 = .ok (.aload_n 2, 1) := by decide +kernel
theorem d_LW_law_489 : decode code 489 = .ok (.aload_n 0, 1) := by decide +kernel
theorem d_LW_law_490 : decode code 490 = .ok (.iload_n 3, 1) := by decide +kernel
theorem d_LW_law_491 : decode code 491 = .ok (.iconst 1, 1) := by decide +kernel
theorem d_LW_law_492 : decode code 492 = .ok (.iadd, 1) := by decide +kernel
theorem d_LW_law_493 : decode code 493 = .ok (.iaload, 1) := by decide +kernel
theorem d_LW_law_494 : decode code 494 = .ok (.aload_n 0, 1) := by decide +kernel
theorem d_LW_law_495 : decode code 495 = .ok (.iload_n 3, 1) := by decide +kernel
theorem d_LW_law_496 : decode code 496 = .ok (.iconst 2, 1) := by decide +kernel
theorem d_LW_law_497 : decode code 497 = .ok (.iadd, 1) := by decide +kernel
theorem d_LW_law_498 : decode code 498 = .ok (.iaload, 1) := by decide +kernel
theorem d_LW_law_499 : decode code 499 = .ok (.invokevirtual 65, 3) := by decide +kernel
theorem d_LW_law_502 : decode code 502 = .ok (.if_icmp .eq 110, 3) := by decide +kernel
theorem d_LW_law_505 : decode code 505 = .ok (.iconst 0, 1) := by decide +kernel
theorem d_LW_law_506 : decode code 506 = .ok (.ireturn, 1) := by decide +kernel
theorem d_LW_law_507 : decode code 507 = .ok (.aload_n 1, 1) := by decide +kernel
theorem d_LW_law_508 : decode code 508 = .ok (.aload_n 0, 1) := by decide +kernel
theorem d_LW_law_509 : decode code 509 = .ok (.iload_n 3, 1) := by decide +kernel
theorem d_LW_law_510 : decode code 510 = .ok (.iconst 1, 1) := by decide +kernel
theorem d_LW_law_511 : decode code 511 = .ok (.iadd, 1) := by decide +kernel
theorem d_LW_law_512 : decode code 512 = .ok (.iaload, 1) := by decide +kernel
theorem d_LW_law_513 : decode code 513 = .ok (.invokevirtual 66, 3) := by decide +kernel
theorem d_LW_law_516 : decode code 516 = .ok (.aload_n 2, 1) := by decide +kernel
theorem d_LW_law_517 : decode code 517 = .ok (.aload_n 0, 1) := by decide +kernel
theorem d_LW_law_518 : decode code 518 = .ok (.iload_n 3, 1) := by decide +kernel
theorem d_LW_law_519 : decode code 519 = .ok (.iconst 1, 1) := by decide +kernel
theorem d_LW_law_520 : decode code 520 = .ok (.iadd, 1) := by decide +kernel
theorem d_LW_law_521 : decode code 521 = .ok (.iaload, 1) := by decide +kernel
theorem d_LW_law_522 : decode code 522 = .ok (.invokevirtual 70, 3) := by decide +kernel
theorem d_LW_law_525 : decode code 525 = .ok (.if_icmp .eq 87, 3) := by decide +kernel
theorem d_LW_law_528 : decode code 528 = .ok (.iconst 0, 1) := by decide +kernel
theorem d_LW_law_529 : decode code 529 = .ok (.ireturn, 1) := by decide +kernel
theorem d_LW_law_530 : decode code 530 = .ok (.aload_n 1, 1) := by decide +kernel
theorem d_LW_law_531 : decode code 531 = .ok (.aload_n 0, 1) := by decide +kernel
theorem d_LW_law_532 : decode code 532 = .ok (.iload_n 3, 1) := by decide +kernel
theorem d_LW_law_533 : decode code 533 = .ok (.iconst 1, 1) := by decide +kernel
theorem d_LW_law_534 : decode code 534 = .ok (.iadd, 1) := by decide +kernel
theorem d_LW_law_535 : decode code 535 = .ok (.iaload, 1) := by decide +kernel
theorem d_LW_law_536 : decode code 536 = .ok (.invokevirtual 71, 3) := by decide +kernel
theorem d_LW_law_539 : decode code 539 = .ok (.aload_n 2, 1) := by decide +kernel
theorem d_LW_law_540 : decode code 540 = .ok (.aload_n 0, 1) := by decide +kernel
theorem d_LW_law_541 : decode code 541 = .ok (.iload_n 3, 1) := by decide +kernel
theorem d_LW_law_542 : decode code 542 = .ok (.iconst 1, 1) := by decide +kernel
theorem d_LW_law_543 : decode code 543 = .ok (.iadd, 1) := by decide +kernel
theorem d_LW_law_544 : decode code 544 = .ok (.iaload, 1) := by decide +kernel
theorem d_LW_law_545 : decode code 545 = .ok (.invokevirtual 74, 3) := by decide +kernel
theorem d_LW_law_548 : decode code 548 = .ok (.if_icmp .eq 64, 3) := by decide +kernel
theorem d_LW_law_551 : decode code 551 = .ok (.iconst 0, 1) := by decide +kernel
theorem d_LW_law_552 : decode code 552 = .ok (.ireturn, 1) := by decide +kernel
theorem d_LW_law_553 : decode code 553 = .ok (.aload_n 1, 1) := by decide +kernel
theorem d_LW_law_554 : decode code 554 = .ok (.aload_n 0, 1) := by decide +kernel
theorem d_LW_law_555 : decode code 555 = .ok (.iload_n 3, 1) := by decide +kernel
theorem d_LW_law_556 : decode code 556 = .ok (.iconst 1, 1) := by decide +kernel
theorem d_LW_law_557 : decode code 557 = .ok (.iadd, 1) := by decide +kernel
theorem d_LW_law_558 : decode code 558 = .ok (.iaload, 1) := by decide +kernel
theorem d_LW_law_559 : decode code 559 = .ok (.invokevirtual 75, 3) := by decide +kernel
theorem d_LW_law_562 : decode code 562 = .ok (.aload_n 2, 1) := by decide +kernel
theorem d_LW_law_563 : decode code 563 = .ok (.aload_n 0, 1) := by decide +kernel
theorem d_LW_law_564 : decode code 564 = .ok (.iload_n 3, 1) := by decide +kernel
theorem d_LW_law_565 : decode code 565 = .ok (.iconst 1, 1) := by decide +kernel
theorem d_LW_law_566 : decode code 566 = .ok (.iadd, 1) := by decide +kernel
theorem d_LW_law_567 : decode code 567 = .ok (.iaload, 1) := by decide +kernel
theorem d_LW_law_568 : decode code 568 = .ok (.invokevirtual 78, 3) := by decide +kernel
theorem d_LW_law_571 : decode code 571 = .ok (.if_icmp .eq 41, 3) := by decide +kernel
theorem d_LW_law_574 : decode code 574 = .ok (.iconst 0, 1) := by decide +kernel
theorem d_LW_law_575 : decode code 575 = .ok (.ireturn, 1) := by decide +kernel
theorem d_LW_law_576 : decode code 576 = .ok (.aload_n 1, 1) := by decide +kernel
theorem d_LW_law_577 : decode code 577 = .ok (.invokevirtual 79, 3) := by decide +kernel
theorem d_LW_law_580 : decode code 580 = .ok (.aload_n 2, 1) := by decide +kernel
theorem d_LW_law_581 : decode code 581 = .ok (.invokevirtual 83, 3) := by decide +kernel
theorem d_LW_law_584 : decode code 584 = .ok (.if_icmp .eq 28, 3) := by decide +kernel
theorem d_LW_law_587 : decode code 587 = .ok (.iconst 0, 1) := by decide +kernel
theorem d_LW_law_588 : decode code 588 = .ok (.ireturn, 1) := by decide +kernel
theorem d_LW_law_589 : decode code 589 = .ok (.aload_n 1, 1) := by decide +kernel
theorem d_LW_law_590 : decode code 590 = .ok (.aload_n 0, 1) := by decide +kernel
theorem d_LW_law_591 : decode code 591 = .ok (.iload_n 3, 1) := by decide +kernel
theorem d_LW_law_592 : decode code 592 = .ok (.iconst 1, 1) := by decide +kernel
theorem d_LW_law_593 : decode code 593 = .ok (.iadd, 1) := by decide +kernel
theorem d_LW_law_594 : decode code 594 = .ok (.iaload, 1) := by decide +kernel
theorem d_LW_law_595 : decode code 595 = .ok (.invokevirtual 84, 3) := by decide +kernel
theorem d_LW_law_598 : decode code 598 = .ok (.aload_n 2, 1) := by decide +kernel
theorem d_LW_law_599 : decode code 599 = .ok (.aload_n 0, 1) := by decide +kernel
theorem d_LW_law_600 : decode code 600 = .ok (.iload_n 3, 1) := by decide +kernel
theorem d_LW_law_601 : decode code 601 = .ok (.iconst 1, 1) := by decide +kernel
theorem d_LW_law_602 : decode code 602 = .ok (.iadd, 1) := by decide +kernel
theorem d_LW_law_603 : decode code 603 = .ok (.iaload, 1) := by decide +kernel
theorem d_LW_law_604 : decode code 604 = .ok (.invokevirtual 87, 3) := by decide +kernel
theorem d_LW_law_607 : decode code 607 = .ok (.if_icmp .eq 5, 3) := by decide +kernel
theorem d_LW_law_610 : decode code 610 = .ok (.iconst 0, 1) := by decide +kernel
theorem d_LW_law_611 : decode code 611 = .ok (.ireturn, 1) := by decide +kernel
theorem d_LW_law_612 : decode code 612 = .ok (.iinc 3 5, 3) := by decide +kernel
theorem d_LW_law_615 : decode code 615 = .ok (.goto (-597), 3) := by decide +kernel
theorem d_LW_law_618 : decode code 618 = .ok (.iconst 1, 1) := by decide +kernel
theorem d_LW_law_619 : decode code 619 = .ok (.ireturn, 1) := by decide +kernel

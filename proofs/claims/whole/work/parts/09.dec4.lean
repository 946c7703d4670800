/-! What stands at each place of the code. -/
theorem d_Law_law_0 : decode b_Law_law 0 = .ok (.new 7, 3) := by decide +kernel
theorem d_Law_law_3 : decode b_Law_law 3 = .ok (.dup, 1) := by decide +kernel
theorem d_Law_law_4 : decode b_Law_law 4 = .ok (.invokespecial 9, 3) := by decide +kernel
theorem d_Law_law_7 : decode b_Law_law 7 = .ok (.astore_n 1, 1) := by decide +kernel
theorem d_Law_law_8 : decode b_Law_law 8 = .ok (.new 10, 3) := by decide +kernel
theorem d_Law_law_11 : decode b_Law_law 11 = .ok (.dup, 1) := by decide +kernel
theorem d_Law_law_12 : decode b_Law_law 12 = .ok (.invokespecial 12, 3) := by decide +kernel
theorem d_Law_law_15 : decode b_Law_law 15 = .ok (.astore_n 2, 1) := by decide +kernel
theorem d_Law_law_16 : decode b_Law_law 16 = .ok (.iconst 0, 1) := by decide +kernel
theorem d_Law_law_17 : decode b_Law_law 17 = .ok (.istore_n 3, 1) := by decide +kernel
theorem d_Law_law_18 : decode b_Law_law 18 = .ok (.iload_n 3, 1) := by decide +kernel
theorem d_Law_law_19 : decode b_Law_law 19 = .ok (.aload_n 0, 1) := by decide +kernel
theorem d_Law_law_20 : decode b_Law_law 20 = .ok (.arraylength, 1) := by decide +kernel
theorem d_Law_law_21 : decode b_Law_law 21 = .ok (.bipush 6, 2) := by decide +kernel
theorem d_Law_law_23 : decode b_Law_law 23 = .ok (.isub, 1) := by decide +kernel
theorem d_Law_law_24 : decode b_Law_law 24 = .ok (.if_icmp .gt 487, 3) := by decide +kernel
theorem d_Law_law_27 : decode b_Law_law 27 = .ok (.aload_n 0, 1) := by decide +kernel
theorem d_Law_law_28 : decode b_Law_law 28 = .ok (.iload_n 3, 1) := by decide +kernel
theorem d_Law_law_29 : decode b_Law_law 29 = .ok (.iaload, 1) := by decide +kernel
theorem d_Law_law_30 : decode b_Law_law 30 = .ok (.bipush 31, 2) := by decide +kernel
theorem d_Law_law_32 : decode b_Law_law 32 = .ok (.iand, 1) := by decide +kernel
theorem d_Law_law_33 : decode b_Law_law 33 = .ok (.tableswitch 472 0 16 #[83, 146, 157, 170, 203, 216, 229, 242, 275, 308, 331, 354, 367, 400, 413, 446, 459], 83) := by decide +kernel
theorem d_Law_law_116 : decode b_Law_law 116 = .ok (.aload_n 1, 1) := by decide +kernel
theorem d_Law_law_117 : decode b_Law_law 117 = .ok (.aload_n 0, 1) := by decide +kernel
theorem d_Law_law_118 : decode b_Law_law 118 = .ok (.iload_n 3, 1) := by decide +kernel
theorem d_Law_law_119 : decode b_Law_law 119 = .ok (.iconst 1, 1) := by decide +kernel
theorem d_Law_law_120 : decode b_Law_law 120 = .ok (.iadd, 1) := by decide +kernel
theorem d_Law_law_121 : decode b_Law_law 121 = .ok (.iaload, 1) := by decide +kernel
theorem d_Law_law_122 : decode b_Law_law 122 = .ok (.aload_n 0, 1) := by decide +kernel
theorem d_Law_law_123 : decode b_Law_law 123 = .ok (.iload_n 3, 1) := by decide +kernel
theorem d_Law_law_124 : decode b_Law_law 124 = .ok (.iconst 2, 1) := by decide +kernel
theorem d_Law_law_125 : decode b_Law_law 125 = .ok (.iadd, 1) := by decide +kernel
theorem d_Law_law_126 : decode b_Law_law 126 = .ok (.iaload, 1) := by decide +kernel
theorem d_Law_law_127 : decode b_Law_law 127 = .ok (.aload_n 0, 1) := by decide +kernel
theorem d_Law_law_128 : decode b_Law_law 128 = .ok (.iload_n 3, 1) := by decide +kernel
theorem d_Law_law_129 : decode b_Law_law 129 = .ok (.iconst 3, 1) := by decide +kernel
theorem d_Law_law_130 : decode b_Law_law 130 = .ok (.iadd, 1) := by decide +kernel
theorem d_Law_law_131 : decode b_Law_law 131 = .ok (.iaload, 1) := by decide +kernel
theorem d_Law_law_132 : decode b_Law_law 132 = .ok (.aload_n 0, 1) := by decide +kernel
theorem d_Law_law_133 : decode b_Law_law 133 = .ok (.iload_n 3, 1) := by decide +kernel
theorem d_Law_law_134 : decode b_Law_law 134 = .ok (.iconst 4, 1) := by decide +kernel
theorem d_Law_law_135 : decode b_Law_law 135 = .ok (.iadd, 1) := by decide +kernel
theorem d_Law_law_136 : decode b_Law_law 136 = .ok (.iaload, 1) := by decide +kernel
theorem d_Law_law_137 : decode b_Law_law 137 = .ok (.aload_n 0, 1) := by decide +kernel
theorem d_Law_law_138 : decode b_Law_law 138 = .ok (.iload_n 3, 1) := by decide +kernel
theorem d_Law_law_139 : decode b_Law_law 139 = .ok (.iconst 5, 1) := by decide +kernel
theorem d_Law_law_140 : decode b_Law_law 140 = .ok (.iadd, 1) := by decide +kernel
theorem d_Law_law_141 : decode b_Law_law 141 = .ok (.iaload, 1) := by decide +kernel
theorem d_Law_law_142 : decode b_Law_law 142 = .ok (.invokevirtual 13, 3) := by decide +kernel
theorem d_Law_law_145 : decode b_Law_law 145 = .ok (.aload_n 2, 1) := by decide +kernel
theorem d_Law_law_146 : decode b_Law_law 146 = .ok (.aload_n 0, 1) := by decide +kernel
theorem d_Law_law_147 : decode b_Law_law 147 = .ok (.iload_n 3, 1) := by decide +kernel
theorem d_Law_law_148 : decode b_Law_law 148 = .ok (.iconst 1, 1) := by decide +kernel
theorem d_Law_law_149 : decode b_Law_law 149 = .ok (.iadd, 1) := by decide +kernel
theorem d_Law_law_150 : decode b_Law_law 150 = .ok (.iaload, 1) := by decide +kernel
theorem d_Law_law_151 : decode b_Law_law 151 = .ok (.aload_n 0, 1) := by decide +kernel
theorem d_Law_law_152 : decode b_Law_law 152 = .ok (.iload_n 3, 1) := by decide +kernel
theorem d_Law_law_153 : decode b_Law_law 153 = .ok (.iconst 2, 1) := by decide +kernel
theorem d_Law_law_154 : decode b_Law_law 154 = .ok (.iadd, 1) := by decide +kernel
theorem d_Law_law_155 : decode b_Law_law 155 = .ok (.iaload, 1) := by decide +kernel
theorem d_Law_law_156 : decode b_Law_law 156 = .ok (.aload_n 0, 1) := by decide +kernel
theorem d_Law_law_157 : decode b_Law_law 157 = .ok (.iload_n 3, 1) := by decide +kernel
theorem d_Law_law_158 : decode b_Law_law 158 = .ok (.iconst 3, 1) := by decide +kernel
theorem d_Law_law_159 : decode b_Law_law 159 = .ok (.iadd, 1) := by decide +kernel
theorem d_Law_law_160 : decode b_Law_law 160 = .ok (.iaload, 1) := by decide +kernel
theorem d_Law_law_161 : decode b_Law_law 161 = .ok (.aload_n 0, 1) := by decide +kernel
theorem d_Law_law_162 : decode b_Law_law 162 = .ok (.iload_n 3, 1) := by decide +kernel
theorem d_Law_law_163 : decode b_Law_law 163 = .ok (.iconst 4, 1) := by decide +kernel
theorem d_Law_law_164 : decode b_Law_law 164 = .ok (.iadd, 1) := by decide +kernel
theorem d_Law_law_165 : decode b_Law_law 165 = .ok (.iaload, 1) := by decide +kernel
theorem d_Law_law_166 : decode b_Law_law 166 = .ok (.aload_n 0, 1) := by decide +kernel
theorem d_Law_law_167 : decode b_Law_law 167 = .ok (.iload_n 3, 1) := by decide +kernel
theorem d_Law_law_168 : decode b_Law_law 168 = .ok (.iconst 5, 1) := by decide +kernel
theorem d_Law_law_169 : decode b_Law_law 169 = .ok (.iadd, 1) := by decide +kernel
theorem d_Law_law_170 : decode b_Law_law 170 = .ok (.iaload, 1) := by decide +kernel
theorem d_Law_law_171 : decode b_Law_law 171 = .ok (.invokevirtual 17, 3) := by decide +kernel
theorem d_Law_law_174 : decode b_Law_law 174 = .ok (.if_icmp .eq 331, 3) := by decide +kernel
theorem d_Law_law_177 : decode b_Law_law 177 = .ok (.iconst 0, 1) := by decide +kernel
theorem d_Law_law_178 : decode b_Law_law 178 = .ok (.ireturn, 1) := by decide +kernel
theorem d_Law_law_179 : decode b_Law_law 179 = .ok (.aload_n 1, 1) := by decide +kernel
theorem d_Law_law_180 : decode b_Law_law 180 = .ok (.invokevirtual 18, 3) := by decide +kernel
theorem d_Law_law_183 : decode b_Law_law 183 = .ok (.aload_n 2, 1) := by decide +kernel
theorem d_Law_law_184 : decode b_Law_law 184 = .ok (.invokevirtual 21, 3) := by decide +kernel
theorem d_Law_law_187 : decode b_Law_law 187 = .ok (.goto 318, 3) := by decide +kernel
theorem d_Law_law_190 : decode b_Law_law 190 = .ok (.aload_n 1, 1) := by decide +kernel
theorem d_Law_law_191 : decode b_Law_law 191 = .ok (.invokevirtual 22, 3) := by decide +kernel
theorem d_Law_law_194 : decode b_Law_law 194 = .ok (.aload_n 2, 1) := by decide +kernel
theorem d_Law_law_195 : decode b_Law_law 195 = .ok (.invokevirtual 26, 3) := by decide +kernel
theorem d_Law_law_198 : decode b_Law_law 198 = .ok (.if_icmp .eq 307, 3) := by decide +kernel
theorem d_Law_law_201 : decode b_Law_law 201 = .ok (.iconst 0, 1) := by decide +kernel
theorem d_Law_law_202 : decode b_Law_law 202 = .ok (.ireturn, 1) := by decide +kernel
theorem d_Law_law_203 : decode b_Law_law 203 = .ok (.aload_n 1, 1) := by decide +kernel
theorem d_Law_law_204 : decode b_Law_law 204 = .ok (.aload_n 0, 1) := by decide +kernel
theorem d_Law_law_205 : decode b_Law_law 205 = .ok (.iload_n 3, 1) := by decide +kernel
theorem d_Law_law_206 : decode b_Law_law 206 = .ok (.iconst 1, 1) := by decide +kernel
theorem d_Law_law_207 : decode b_Law_law 207 = .ok (.iadd, 1) := by decide +kernel
theorem d_Law_law_208 : decode b_Law_law 208 = .ok (.iaload, 1) := by decide +kernel
theorem d_Law_law_209 : decode b_Law_law 209 = .ok (.aload_n 0, 1) := by decide +kernel
theorem d_Law_law_210 : decode b_Law_law 210 = .ok (.iload_n 3, 1) := by decide +kernel
theorem d_Law_law_211 : decode b_Law_law 211 = .ok (.iconst 2, 1) := by decide +kernel
theorem d_Law_law_212 : decode b_Law_law 212 = .ok (.iadd, 1) := by decide +kernel
theorem d_Law_law_213 : decode b_Law_law 213 = .ok (.iaload, 1) := by decide +kernel
theorem d_Law_law_214 : decode b_Law_law 214 = .ok (.invokevirtual 27, 3) := by decide +kernel
theorem d_Law_law_217 : decode b_Law_law 217 = .ok (.aload_n 2, 1) := by decide +kernel
theorem d_Law_law_218 : decode b_Law_law 218 = .ok (.aload_n 0, 1) := by decide +kernel
theorem d_Law_law_219 : decode b_Law_law 219 = .ok (.iload_n 3, 1) := by decide +kernel
theorem d_Law_law_220 : decode b_Law_law 220 = .ok (.iconst 1, 1) := by decide +kernel
theorem d_Law_law_221 : decode b_Law_law 221 = .ok (.iadd, 1) := by decide +kernel
theorem d_Law_law_222 : decode b_Law_law 222 = .ok (.iaload, 1) := by decide +kernel
theorem d_Law_law_223 : decode b_Law_law 223 = .ok (.aload_n 0, 1) := by decide +kernel
theorem d_Law_law_224 : decode b_Law_law 224 = .ok (.iload_n 3, 1) := by decide +kernel
theorem d_Law_law_225 : decode b_Law_law 225 = .ok (.iconst 2, 1) := by decide +kernel
theorem d_Law_law_226 : decode b_Law_law 226 = .ok (.iadd, 1) := by decide +kernel
theorem d_Law_law_227 : decode b_Law_law 227 = .ok (.iaload, 1) := by decide +kernel
theorem d_Law_law_228 : decode b_Law_law 228 = .ok (.invokevirtual 31, 3) := by decide +kernel
theorem d_Law_law_231 : decode b_Law_law 231 = .ok (.if_icmp .eq 274, 3) := by decide +kernel
theorem d_Law_law_234 : decode b_Law_law 234 = .ok (.iconst 0, 1) := by decide +kernel
theorem d_Law_law_235 : decode b_Law_law 235 = .ok (.ireturn, 1) := by decide +kernel
theorem d_Law_law_236 : decode b_Law_law 236 = .ok (.aload_n 1, 1) := by decide +kernel
theorem d_Law_law_237 : decode b_Law_law 237 = .ok (.invokevirtual 32, 3) := by decide +kernel
theorem d_Law_law_240 : decode b_Law_law 240 = .ok (.aload_n 2, 1) := by decide +kernel
theorem d_Law_law_241 : decode b_Law_law 241 = .ok (.invokevirtual 36, 3) := by decide +kernel
theorem d_Law_law_244 : decode b_Law_law 244 = .ok (.if_icmp .eq 261, 3) := by decide +kernel
theorem d_Law_law_247 : decode b_Law_law 247 = .ok (.iconst 0, 1) := by decide +kernel
theorem d_Law_law_248 : decode b_Law_law 248 = .ok (.ireturn, 1) := by decide +kernel
theorem d_Law_law_249 : decode b_Law_law 249 = .ok (.aload_n 1, 1) := by decide +kernel
theorem d_Law_law_250 : decode b_Law_law 250 = .ok (.invokevirtual 37, 3) := by decide +kernel
theorem d_Law_law_253 : decode b_Law_law 253 = .ok (.aload_n 2, 1) := by decide +kernel
theorem d_Law_law_254 : decode b_Law_law 254 = .ok (.invokevirtual 40, 3) := by decide +kernel
theorem d_Law_law_257 : decode b_Law_law 257 = .ok (.if_icmp .eq 248, 3) := by decide +kernel
theorem d_Law_law_260 : decode b_Law_law 260 = .ok (.iconst 0, 1) := by decide +kernel
theorem d_Law_law_261 : decode b_Law_law 261 = .ok (.ireturn, 1) := by decide +kernel
theorem d_Law_law_262 : decode b_Law_law 262 = .ok (.aload_n 1, 1) := by decide +kernel
theorem d_Law_law_263 : decode b_Law_law 263 = .ok (.invokevirtual 41, 3) := by decide +kernel
theorem d_Law_law_266 : decode b_Law_law 266 = .ok (.aload_n 2, 1) := by decide +kernel
theorem d_Law_law_267 : decode b_Law_law 267 = .ok (.invokevirtual 44, 3) := by decide +kernel
theorem d_Law_law_270 : decode b_Law_law 270 = .ok (.if_icmp .eq 235, 3) := by decide +kernel
theorem d_Law_law_273 : decode b_Law_law 273 = .ok (.iconst 0, 1) := by decide +kernel
theorem d_Law_law_274 : decode b_Law_law 274 = .ok (.ireturn, 1) := by decide +kernel
theorem d_Law_law_275 : decode b_Law_law 275 = .ok (.aload_n 1, 1) := by decide +kernel
theorem d_Law_law_276 : decode b_Law_law 276 = .ok (.aload_n 0, 1) := by decide +kernel
theorem d_Law_law_277 : decode b_Law_law 277 = .ok (.iload_n 3, 1) := by decide +kernel
theorem d_Law_law_278 : decode b_Law_law 278 = .ok (.iconst 1, 1) := by decide +kernel
theorem d_Law_law_279 : decode b_Law_law 279 = .ok (.iadd, 1) := by decide +kernel
theorem d_Law_law_280 : decode b_Law_law 280 = .ok (.iaload, 1) := by decide +kernel
theorem d_Law_law_281 : decode b_Law_law 281 = .ok (.aload_n 0, 1) := by decide +kernel
theorem d_Law_law_282 : decode b_Law_law 282 = .ok (.iload_n 3, 1) := by decide +kernel
theorem d_Law_law_283 : decode b_Law_law 283 = .ok (.iconst 2, 1) := by decide +kernel
theorem d_Law_law_284 : decode b_Law_law 284 = .ok (.iadd, 1) := by decide +kernel
theorem d_Law_law_285 : decode b_Law_law 285 = .ok (.iaload, 1) := by decide +kernel
theorem d_Law_law_286 : decode b_Law_law 286 = .ok (.invokevirtual 45, 3) := by decide +kernel
theorem d_Law_law_289 : decode b_Law_law 289 = .ok (.aload_n 2, 1) := by decide +kernel
theorem d_Law_law_290 : decode b_Law_law 290 = .ok (.aload_n 0, 1) := by decide +kernel
theorem d_Law_law_291 : decode b_Law_law 291 = .ok (.iload_n 3, 1) := by decide +kernel
theorem d_Law_law_292 : decode b_Law_law 292 = .ok (.iconst 1, 1) := by decide +kernel
theorem d_Law_law_293 : decode b_Law_law 293 = .ok (.iadd, 1) := by decide +kernel
theorem d_Law_law_294 : decode b_Law_law 294 = .ok (.iaload, 1) := by decide +kernel
theorem d_Law_law_295 : decode b_Law_law 295 = .ok (.aload_n 0, 1) := by decide +kernel
theorem d_Law_law_296 : decode b_Law_law 296 = .ok (.iload_n 3, 1) := by decide +kernel
theorem d_Law_law_297 : decode b_Law_law 297 = .ok (.iconst 2, 1) := by decide +kernel
theorem d_Law_law_298 : decode b_Law_law 298 = .ok (.iadd, 1) := by decide +kernel
theorem d_Law_law_299 : decode b_Law_law 299 = .ok (.iaload, 1) := by decide +kernel
theorem d_Law_law_300 : decode b_Law_law 300 = .ok (.invokevirtual 48, 3) := by decide +kernel
theorem d_Law_law_303 : decode b_Law_law 303 = .ok (.if_icmp .eq 202, 3) := by decide +kernel
theorem d_Law_law_306 : decode b_Law_law 306 = .ok (.iconst 0, 1) := by decide +kernel
theorem d_Law_law_307 : decode b_Law_law 307 = .ok (.ireturn, 1) := by decide +kernel
theorem d_Law_law_308 : decode b_Law_law 308 = .ok (.aload_n 1, 1) := by decide +kernel
theorem d_Law_law_309 : decode b_Law_law 309 = .ok (.aload_n 0, 1) := by decide +kernel
theorem d_Law_law_310 : decode b_Law_law 310 = .ok (.iload_n 3, 1) := by decide +kernel
theorem d_Law_law_311 : decode b_Law_law 311 = .ok (.iconst 1, 1) := by decide +kernel
theorem d_Law_law_312 : decode b_Law_law 312 = .ok (.iadd, 1) := by decide +kernel
theorem d_Law_law_313 : decode b_Law_law 313 = .ok (.iaload, 1) := by decide +kernel
theorem d_Law_law_314 : decode b_Law_law 314 = .ok (.aload_n 0, 1) := by decide +kernel
theorem d_Law_law_315 : decode b_Law_law 315 = .ok (.iload_n 3, 1) := by decide +kernel
theorem d_Law_law_316 : decode b_Law_law 316 = .ok (.iconst 2, 1) := by decide +kernel
theorem d_Law_law_317 : decode b_Law_law 317 = .ok (.iadd, 1) := by decide +kernel
theorem d_Law_law_318 : decode b_Law_law 318 = .ok (.iaload, 1) := by decide +kernel
theorem d_Law_law_319 : decode b_Law_law 319 = .ok (.invokevirtual 49, 3) := by decide +kernel
theorem d_Law_law_322 : decode b_Law_law 322 = .ok (.aload_n 2, 1) := by decide +kernel
theorem d_Law_law_323 : decode b_Law_law 323 = .ok (.aload_n 0, 1) := by decide +kernel
theorem d_Law_law_324 : decode b_Law_law 324 = .ok (.iload_n 3, 1) := by decide +kernel
theorem d_Law_law_325 : decode b_Law_law 325 = .ok (.iconst 1, 1) := by decide +kernel
theorem d_Law_law_326 : decode b_Law_law 326 = .ok (.iadd, 1) := by decide +kernel
theorem d_Law_law_327 : decode b_Law_law 327 = .ok (.iaload, 1) := by decide +kernel
theorem d_Law_law_328 : decode b_Law_law 328 = .ok (.aload_n 0, 1) := by decide +kernel
theorem d_Law_law_329 : decode b_Law_law 329 = .ok (.iload_n 3, 1) := by decide +kernel
theorem d_Law_law_330 : decode b_Law_law 330 = .ok (.iconst 2, 1) := by decide +kernel
theorem d_Law_law_331 : decode b_Law_law 331 = .ok (.iadd, 1) := by decide +kernel
theorem d_Law_law_332 : decode b_Law_law 332 = .ok (.iaload, 1) := by decide +kernel
theorem d_Law_law_333 : decode b_Law_law 333 = .ok (.invokevirtual 52, 3) := by decide +kernel
theorem d_Law_law_336 : decode b_Law_law 336 = .ok (.if_icmp .eq 169, 3) := by decide +kernel
theorem d_Law_law_339 : decode b_Law_law 339 = .ok (.iconst 0, 1) := by decide +kernel
theorem d_Law_law_340 : decode b_Law_law 340 = .ok (.ireturn, 1) := by decide +kernel
theorem d_Law_law_341 : decode b_Law_law 341 = .ok (.aload_n 1, 1) := by decide +kernel
theorem d_Law_law_342 : decode b_Law_law 342 = .ok (.aload_n 0, 1) := by decide +kernel
theorem d_Law_law_343 : decode b_Law_law 343 = .ok (.iload_n 3, 1) := by decide +kernel
theorem d_Law_law_344 : decode b_Law_law 344 = .ok (.iconst 1, 1) := by decide +kernel
theorem d_Law_law_345 : decode b_Law_law 345 = .ok (.iadd, 1) := by decide +kernel
theorem d_Law_law_346 : decode b_Law_law 346 = .ok (.iaload, 1) := by decide +kernel
theorem d_Law_law_347 : decode b_Law_law 347 = .ok (.invokevirtual 53, 3) := by decide +kernel
theorem d_Law_law_350 : decode b_Law_law 350 = .ok (.aload_n 2, 1) := by decide +kernel
theorem d_Law_law_351 : decode b_Law_law 351 = .ok (.aload_n 0, 1) := by decide +kernel
theorem d_Law_law_352 : decode b_Law_law 352 = .ok (.iload_n 3, 1) := by decide +kernel
theorem d_Law_law_353 : decode b_Law_law 353 = .ok (.iconst 1, 1) := by decide +kernel
theorem d_Law_law_354 : decode b_Law_law 354 = .ok (.iadd, 1) := by decide +kernel
theorem d_Law_law_355 : decode b_Law_law 355 = .ok (.iaload, 1) := by decide +kernel
theorem d_Law_law_356 : decode b_Law_law 356 = .ok (.invokevirtual 57, 3) := by decide +kernel
theorem d_Law_law_359 : decode b_Law_law 359 = .ok (.if_icmp .eq 146, 3) := by decide +kernel
theorem d_Law_law_362 : decode b_Law_law 362 = .ok (.iconst 0, 1) := by decide +kernel
theorem d_Law_law_363 : decode b_Law_law 363 = .ok (.ireturn, 1) := by decide +kernel
theorem d_Law_law_364 : decode b_Law_law 364 = .ok (.aload_n 1, 1) := by decide +kernel
theorem d_Law_law_365 : decode b_Law_law 365 = .ok (.aload_n 0, 1) := by decide +kernel
theorem d_Law_law_366 : decode b_Law_law 366 = .ok (.iload_n 3, 1) := by decide +kernel
theorem d_Law_law_367 : decode b_Law_law 367 = .ok (.iconst 1, 1) := by decide +kernel
theorem d_Law_law_368 : decode b_Law_law 368 = .ok (.iadd, 1) := by decide +kernel
theorem d_Law_law_369 : decode b_Law_law 369 = .ok (.iaload, 1) := by decide +kernel
theorem d_Law_law_370 : decode b_Law_law 370 = .ok (.invokevirtual 58, 3) := by decide +kernel
theorem d_Law_law_373 : decode b_Law_law 373 = .ok (.aload_n 2, 1) := by decide +kernel
theorem d_Law_law_374 : decode b_Law_law 374 = .ok (.aload_n 0, 1) := by decide +kernel
theorem d_Law_law_375 : decode b_Law_law 375 = .ok (.iload_n 3, 1) := by decide +kernel
theorem d_Law_law_376 : decode b_Law_law 376 = .ok (.iconst 1, 1) := by decide +kernel
theorem d_Law_law_377 : decode b_Law_law 377 = .ok (.iadd, 1) := by decide +kernel
theorem d_Law_law_378 : decode b_Law_law 378 = .ok (.iaload, 1) := by decide +kernel
theorem d_Law_law_379 : decode b_Law_law 379 = .ok (.invokevirtual 62, 3) := by decide +kernel
theorem d_Law_law_382 : decode b_Law_law 382 = .ok (.if_icmp .eq 123, 3) := by decide +kernel
theorem d_Law_law_385 : decode b_Law_law 385 = .ok (.iconst 0, 1) := by decide +kernel
theorem d_Law_law_386 : decode b_Law_law 386 = .ok (.ireturn, 1) := by decide +kernel
theorem d_Law_law_387 : decode b_Law_law 387 = .ok (.aload_n 1, 1) := by decide +kernel
theorem d_Law_law_388 : decode b_Law_law 388 = .ok (.invokevirtual 63, 3) := by decide +kernel
theorem d_Law_law_391 : decode b_Law_law 391 = .ok (.aload_n 2, 1) := by decide +kernel
theorem d_Law_law_392 : decode b_Law_law 392 = .ok (.invokevirtual 66, 3) := by decide +kernel
theorem d_Law_law_395 : decode b_Law_law 395 = .ok (.if_icmp .eq 110, 3) := by decide +kernel
theorem d_Law_law_398 : decode b_Law_law 398 = .ok (.iconst 0, 1) := by decide +kernel
theorem d_Law_law_399 : decode b_Law_law 399 = .ok (.ireturn, 1) := by decide +kernel
theorem d_Law_law_400 : decode b_Law_law 400 = .ok (.aload_n 1, 1) := by decide +kernel
theorem d_Law_law_401 : decode b_Law_law 401 = .ok (.aload_n 0, 1) := by decide +kernel
theorem d_Law_law_402 : decode b_Law_law 402 = .ok (.iload_n 3, 1) := by decide +kernel
theorem d_Law_law_403 : decode b_Law_law 403 = .ok (.iconst 1, 1) := by decide +kernel
theorem d_Law_law_404 : decode b_Law_law 404 = .ok (.iadd, 1) := by decide +kernel
theorem d_Law_law_405 : decode b_Law_law 405 = .ok (.iaload, 1) := by decide +kernel
theorem d_Law_law_406 : decode b_Law_law 406 = .ok (.aload_n 0, 1) := by decide +kernel
theorem d_Law_law_407 : decode b_Law_law 407 = .ok (.iload_n 3, 1) := by decide +kernel
theorem d_Law_law_408 : decode b_Law_law 408 = .ok (.iconst 2, 1) := by decide +kernel
theorem d_Law_law_409 : decode b_Law_law 409 = .ok (.iadd, 1) := by decide +kernel
theorem d_Law_law_410 : decode b_Law_law 410 = .ok (.iaload, 1) := by decide +kernel
theorem d_Law_law_411 : decode b_Law_law 411 = .ok (.invokevirtual 67, 3) := by decide +kernel
theorem d_Law_law_414 : decode b_Law_law 414 = .ok (.aload_n 2, 1) := by decide +kernel
theorem d_Law_law_415 : decode b_Law_law 415 = .ok (.aload_n 0, 1) := by decide +kernel
theorem d_Law_law_416 : decode b_Law_law 416 = .ok (.iload_n 3, 1) := by decide +kernel
theorem d_Law_law_417 : decode b_Law_law 417 = .ok (.iconst 1, 1) := by decide +kernel
theorem d_Law_law_418 : decode b_Law_law 418 = .ok (.iadd, 1) := by decide +kernel
theorem d_Law_law_419 : decode b_Law_law 419 = .ok (.iaload, 1) := by decide +kernel
theorem d_Law_law_420 : decode b_Law_law 420 = .ok (.aload_n 0, 1) := by decide +kernel
theorem d_Law_law_421 : decode b_Law_law 421 = .ok (.iload_n 3, 1) := by decide +kernel
theorem d_Law_law_422 : decode b_Law_law 422 = .ok (.iconst 2, 1) := by decide +kernel
theorem d_Law_law_423 : decode b_Law_law 423 = .ok (.iadd, 1) := by decide +kernel
theorem d_Law_law_424 : decode b_Law_law 424 = .ok (.iaload, 1) := by decide +kernel
theorem d_Law_law_425 : decode b_Law_law 425 = .ok (.invokevirtual 70, 3) := by decide +kernel
theorem d_Law_law_428 : decode b_Law_law 428 = .ok (.if_icmp .eq 77, 3) := by decide +kernel
theorem d_Law_law_431 : decode b_Law_law 431 = .ok (.iconst 0, 1) := by decide +kernel
theorem d_Law_law_432 : decode b_Law_law 432 = .ok (.ireturn, 1) := by decide +kernel
theorem d_Law_law_433 : decode b_Law_law 433 = .ok (.aload_n 1, 1) := by decide +kernel
theorem d_Law_law_434 : decode b_Law_law 434 = .ok (.invokevirtual 71, 3) := by decide +kernel
theorem d_Law_law_437 : decode b_Law_law 437 = .ok (.aload_n 2, 1) := by decide +kernel
theorem d_Law_law_438 : decode b_Law_law 438 = .ok (.invokevirtual 74, 3) := by decide +kernel
theorem d_Law_law_441 : decode b_Law_law 441 = .ok (.if_icmp .eq 64, 3) := by decide +kernel
theorem d_Law_law_444 : decode b_Law_law 444 = .ok (.iconst 0, 1) := by decide +kernel
theorem d_Law_law_445 : decode b_Law_law 445 = .ok (.ireturn, 1) := by decide +kernel
theorem d_Law_law_446 : decode b_Law_law 446 = .ok (.aload_n 1, 1) := by decide +kernel
theorem d_Law_law_447 : decode b_Law_law 447 = .ok (.aload_n 0, 1) := by decide +kernel
theorem d_Law_law_448 : decode b_Law_law 448 = .ok (.iload_n 3, 1) := by decide +kernel
theorem d_Law_law_449 : decode b_Law_law 449 = .ok (.iconst 1, 1) := by decide +kernel
theorem d_Law_law_450 : decode b_Law_law 450 = .ok (.iadd, 1) := by decide +kernel
theorem d_Law_law_451 : decode b_Law_law 451 = .ok (.iaload, 1) := by decide +kernel
theorem d_Law_law_452 : decode b_Law_law 452 = .ok (.aload_n 0, 1) := by decide +kernel
theorem d_Law_law_453 : decode b_Law_law 453 = .ok (.iload_n 3, 1) := by decide +kernel
theorem d_Law_law_454 : decode b_Law_law 454 = .ok (.iconst 2, 1) := by decide +kernel
theorem d_Law_law_455 : decode b_Law_law 455 = .ok (.iadd, 1) := by decide +kernel
theorem d_Law_law_456 : decode b_Law_law 456 = .ok (.iaload, 1) := by decide +kernel
theorem d_Law_law_457 : decode b_Law_law 457 = .ok (.invokevirtual 75, 3) := by decide +kernel
theorem d_Law_law_460 : decode b_Law_law 460 = .ok (.aload_n 2, 1) := by decide +kernel
theorem d_Law_law_461 : decode b_Law_law 461 = .ok (.aload_n 0, 1) := by decide +kernel
theorem d_Law_law_462 : decode b_Law_law 462 = .ok (.iload_n 3, 1) := by decide +kernel
theorem d_Law_law_463 : decode b_Law_law 463 = .ok (.iconst 1, 1) := by decide +kernel
theorem d_Law_law_464 : decode b_Law_law 464 = .ok (.iadd, 1) := by decide +kernel
theorem d_Law_law_465 : decode b_Law_law 465 = .ok (.iaload, 1) := by decide +kernel
theorem d_Law_law_466 : decode b_Law_law 466 = .ok (.aload_n 0, 1) := by decide +kernel
theorem d_Law_law_467 : decode b_Law_law 467 = .ok (.iload_n 3, 1) := by decide +kernel
theorem d_Law_law_468 : decode b_Law_law 468 = .ok (.iconst 2, 1) := by decide +kernel
theorem d_Law_law_469 : decode b_Law_law 469 = .ok (.iadd, 1) := by decide +kernel
theorem d_Law_law_470 : decode b_Law_law 470 = .ok (.iaload, 1) := by decide +kernel
theorem d_Law_law_471 : decode b_Law_law 471 = .ok (.invokevirtual 79, 3) := by decide +kernel
theorem d_Law_law_474 : decode b_Law_law 474 = .ok (.if_icmp .eq 31, 3) := by decide +kernel
theorem d_Law_law_477 : decode b_Law_law 477 = .ok (.iconst 0, 1) := by decide +kernel
theorem d_Law_law_478 : decode b_Law_law 478 = .ok (.ireturn, 1) := by decide +kernel
theorem d_Law_law_479 : decode b_Law_law 479 = .ok (.aload_n 1, 1) := by decide +kernel
theorem d_Law_law_480 : decode b_Law_law 480 = .ok (.invokevirtual 80, 3) := by decide +kernel
theorem d_Law_law_483 : decode b_Law_law 483 = .ok (.aload_n 2, 1) := by decide +kernel
theorem d_Law_law_484 : decode b_Law_law 484 = .ok (.invokevirtual 83, 3) := by decide +kernel
theorem d_Law_law_487 : decode b_Law_law 487 = .ok (.if_icmp .eq 18, 3) := by decide +kernel
theorem d_Law_law_490 : decode b_Law_law 490 = .ok (.iconst 0, 1) := by decide +kernel
theorem d_Law_law_491 : decode b_Law_law 491 = .ok (.ireturn, 1) := by decide +kernel
theorem d_Law_law_492 : decode b_Law_law 492 = .ok (.aload_n 1, 1) := by decide +kernel
theorem d_Law_law_493 : decode b_Law_law 493 = .ok (.invokevirtual 84, 3) := by decide +kernel
theorem d_Law_law_496 : decode b_Law_law 496 = .ok (.aload_n 2, 1) := by decide +kernel
theorem d_Law_law_497 : decode b_Law_law 497 = .ok (.invokevirtual 87, 3) := by decide +kernel
theorem d_Law_law_500 : decode b_Law_law 500 = .ok (.if_icmp .eq 5, 3) := by decide +kernel
theorem d_Law_law_503 : decode b_Law_law 503 = .ok (.iconst 0, 1) := by decide +kernel
theorem d_Law_law_504 : decode b_Law_law 504 = .ok (.ireturn, 1) := by decide +kernel
theorem d_Law_law_505 : decode b_Law_law 505 = .ok (.iinc 3 6, 3) := by decide +kernel
theorem d_Law_law_508 : decode b_Law_law 508 = .ok (.goto (-490), 3) := by decide +kernel
theorem d_Law_law_511 : decode b_Law_law 511 = .ok (.iconst 1, 1) := by decide +kernel
theorem d_Law_law_512 : decode b_Law_law 512 = .ok (.ireturn, 1) := by decide +kernel

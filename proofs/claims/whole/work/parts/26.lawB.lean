theorem law_step (k : Nat) : nI (2 + 5 * k) + 5 = nI (2 + 5 * (k + 1)) := by
  rw [show (5 : Int32) = nI 5 from rfl, nI_add, show 2 + 5 * k + 5 = 2 + 5 * (k + 1) by omega]
theorem law_k {L k : Nat} (hL : L ≤ 2562) (hk : k ≤ 512) (h : ¬ nI L - 5 < nI (2 + 5 * k)) : k ≤ 511 ∧ 2 + 5 * k + 5 ≤ L := by
  by_cases h5 : 5 ≤ L
  · rw [show (5 : Int32) = nI 5 from rfl, pk_sub h5] at h
    have h1 : ¬ L - 5 < 2 + 5 * k := fun z => h (nI_lt z (by omega))
    omega
  · exact absurd (Int32.lt_of_lt_of_le (pk_sneg (a := L) (b := 5) (by decide) (by omega)) (nI_pos' (n := 2 + 5 * k) (by omega))) h

theorem d_Law_law_0 : decode code 0 = .ok (.new 7, 3) := by decide +kernel
theorem d_Law_law_3 : decode code 3 = .ok (.dup, 1) := by decide +kernel
theorem d_Law_law_4 : decode code 4 = .ok (.aload_n 0, 1) := by decide +kernel
theorem d_Law_law_5 : decode code 5 = .ok (.iconst 0, 1) := by decide +kernel
theorem d_Law_law_6 : decode code 6 = .ok (.invokestatic 9, 3) := by decide +kernel
theorem d_Law_law_9 : decode code 9 = .ok (.aload_n 0, 1) := by decide +kernel
theorem d_Law_law_10 : decode code 10 = .ok (.iconst 1, 1) := by decide +kernel
theorem d_Law_law_11 : decode code 11 = .ok (.invokestatic 9, 3) := by decide +kernel
theorem d_Law_law_14 : decode code 14 = .ok (.invokespecial 15, 3) := by decide +kernel
theorem d_Law_law_17 : decode code 17 = .ok (.astore_n 1, 1) := by decide +kernel
theorem d_Law_law_18 : decode code 18 = .ok (.new 18, 3) := by decide +kernel
theorem d_Law_law_21 : decode code 21 = .ok (.dup, 1) := by decide +kernel
theorem d_Law_law_22 : decode code 22 = .ok (.aload_n 0, 1) := by decide +kernel
theorem d_Law_law_23 : decode code 23 = .ok (.iconst 0, 1) := by decide +kernel
theorem d_Law_law_24 : decode code 24 = .ok (.invokestatic 9, 3) := by decide +kernel
theorem d_Law_law_27 : decode code 27 = .ok (.aload_n 0, 1) := by decide +kernel
theorem d_Law_law_28 : decode code 28 = .ok (.iconst 1, 1) := by decide +kernel
theorem d_Law_law_29 : decode code 29 = .ok (.invokestatic 9, 3) := by decide +kernel
theorem d_Law_law_32 : decode code 32 = .ok (.invokespecial 20, 3) := by decide +kernel
theorem d_Law_law_35 : decode code 35 = .ok (.astore_n 2, 1) := by decide +kernel
theorem d_Law_law_36 : decode code 36 = .ok (.iconst 2, 1) := by decide +kernel
theorem d_Law_law_37 : decode code 37 = .ok (.istore_n 3, 1) := by decide +kernel
theorem d_Law_law_38 : decode code 38 = .ok (.iload_n 3, 1) := by decide +kernel
theorem d_Law_law_39 : decode code 39 = .ok (.aload_n 0, 1) := by decide +kernel
theorem d_Law_law_40 : decode code 40 = .ok (.arraylength, 1) := by decide +kernel
theorem d_Law_law_41 : decode code 41 = .ok (.iconst 5, 1) := by decide +kernel
theorem d_Law_law_42 : decode code 42 = .ok (.isub, 1) := by decide +kernel
theorem d_Law_law_43 : decode code 43 = .ok (.if_icmp .gt 476, 3) := by decide +kernel
theorem d_Law_law_46 : decode code 46 = .ok (.aload_n 0, 1) := by decide +kernel
theorem d_Law_law_47 : decode code 47 = .ok (.iload_n 3, 1) := by decide +kernel
theorem d_Law_law_48 : decode code 48 = .ok (.iaload, 1) := by decide +kernel
theorem d_Law_law_49 : decode code 49 = .ok (.bipush 15, 2) := by decide +kernel
theorem d_Law_law_51 : decode code 51 = .ok (.iand, 1) := by decide +kernel
theorem d_Law_law_52 : decode code 52 = .ok (.tableswitch 461 0 11 #[64, 127, 200, 243, 276, 309, 322, 346, 389, 402, 425, 438], 64) := by decide +kernel
theorem d_Law_law_116 : decode code 116 = .ok (.aload_n 1, 1) := by decide +kernel
theorem d_Law_law_117 : decode code 117 = .ok (.aload_n 0, 1) := by decide +kernel
theorem d_Law_law_118 : decode code 118 = .ok (.iload_n 3, 1) := by decide +kernel
theorem d_Law_law_119 : decode code 119 = .ok (.iconst 1, 1) := by decide +kernel
theorem d_Law_law_120 : decode code 120 = .ok (.iadd, 1) := by decide +kernel
theorem d_Law_law_121 : decode code 121 = .ok (.iaload, 1) := by decide +kernel
theorem d_Law_law_122 : decode code 122 = .ok (.aload_n 0, 1) := by decide +kernel
theorem d_Law_law_123 : decode code 123 = .ok (.iload_n 3, 1) := by decide +kernel
theorem d_Law_law_124 : decode code 124 = .ok (.iconst 2, 1) := by decide +kernel
theorem d_Law_law_125 : decode code 125 = .ok (.iadd, 1) := by decide +kernel
theorem d_Law_law_126 : decode code 126 = .ok (.iaload, 1) := by decide +kernel
theorem d_Law_law_127 : decode code 127 = .ok (.i2l, 1) := by decide +kernel
theorem d_Law_law_128 : decode code 128 = .ok (.bipush 32, 2) := by decide +kernel
theorem d_Law_law_130 : decode code 130 = .ok (.lshl, 1) := by decide +kernel
theorem d_Law_law_131 : decode code 131 = .ok (.aload_n 0, 1) := by decide +kernel
theorem d_Law_law_132 : decode code 132 = .ok (.iload_n 3, 1) := by decide +kernel
theorem d_Law_law_133 : decode code 133 = .ok (.iconst 3, 1) := by decide +kernel
theorem d_Law_law_134 : decode code 134 = .ok (.iadd, 1) := by decide +kernel
theorem d_Law_law_135 : decode code 135 = .ok (.iaload, 1) := by decide +kernel
theorem d_Law_law_136 : decode code 136 = .ok (.i2l, 1) := by decide +kernel
theorem d_Law_law_137 : decode code 137 = .ok (.ldc2_w 21, 3) := by decide +kernel
theorem d_Law_law_140 : decode code 140 = .ok (.land, 1) := by decide +kernel
theorem d_Law_law_141 : decode code 141 = .ok (.lor, 1) := by decide +kernel
theorem d_Law_law_142 : decode code 142 = .ok (.invokevirtual 23, 3) := by decide +kernel
theorem d_Law_law_145 : decode code 145 = .ok (.aload_n 2, 1) := by decide +kernel
theorem d_Law_law_146 : decode code 146 = .ok (.aload_n 0, 1) := by decide +kernel
theorem d_Law_law_147 : decode code 147 = .ok (.iload_n 3, 1) := by decide +kernel
theorem d_Law_law_148 : decode code 148 = .ok (.iconst 1, 1) := by decide +kernel
theorem d_Law_law_149 : decode code 149 = .ok (.iadd, 1) := by decide +kernel
theorem d_Law_law_150 : decode code 150 = .ok (.iaload, 1) := by decide +kernel
theorem d_Law_law_151 : decode code 151 = .ok (.aload_n 0, 1) := by decide +kernel
theorem d_Law_law_152 : decode code 152 = .ok (.iload_n 3, 1) := by decide +kernel
theorem d_Law_law_153 : decode code 153 = .ok (.iconst 2, 1) := by decide +kernel
theorem d_Law_law_154 : decode code 154 = .ok (.iadd, 1) := by decide +kernel
theorem d_Law_law_155 : decode code 155 = .ok (.iaload, 1) := by decide +kernel
theorem d_Law_law_156 : decode code 156 = .ok (.i2l, 1) := by decide +kernel
theorem d_Law_law_157 : decode code 157 = .ok (.bipush 32, 2) := by decide +kernel
theorem d_Law_law_159 : decode code 159 = .ok (.lshl, 1) := by decide +kernel
theorem d_Law_law_160 : decode code 160 = .ok (.aload_n 0, 1) := by decide +kernel
theorem d_Law_law_161 : decode code 161 = .ok (.iload_n 3, 1) := by decide +kernel
theorem d_Law_law_162 : decode code 162 = .ok (.iconst 3, 1) := by decide +kernel
theorem d_Law_law_163 : decode code 163 = .ok (.iadd, 1) := by decide +kernel
theorem d_Law_law_164 : decode code 164 = .ok (.iaload, 1) := by decide +kernel
theorem d_Law_law_165 : decode code 165 = .ok (.i2l, 1) := by decide +kernel
theorem d_Law_law_166 : decode code 166 = .ok (.ldc2_w 21, 3) := by decide +kernel
theorem d_Law_law_169 : decode code 169 = .ok (.land, 1) := by decide +kernel
theorem d_Law_law_170 : decode code 170 = .ok (.lor, 1) := by decide +kernel
theorem d_Law_law_171 : decode code 171 = .ok (.invokevirtual 27, 3) := by decide +kernel
theorem d_Law_law_174 : decode code 174 = .ok (.if_icmp .eq 339, 3) := by decide +kernel
theorem d_Law_law_177 : decode code 177 = .ok (.iconst 0, 1) := by decide +kernel
theorem d_Law_law_178 : decode code 178 = .ok (.ireturn, 1) := by decide +kernel
theorem d_Law_law_179 : decode code 179 = .ok (.aload_n 1, 1) := by decide +kernel
theorem d_Law_law_180 : decode code 180 = .ok (.aload_n 0, 1) := by decide +kernel
theorem d_Law_law_181 : decode code 181 = .ok (.iload_n 3, 1) := by decide +kernel
theorem d_Law_law_182 : decode code 182 = .ok (.iconst 1, 1) := by decide +kernel
theorem d_Law_law_183 : decode code 183 = .ok (.iadd, 1) := by decide +kernel
theorem d_Law_law_184 : decode code 184 = .ok (.iaload, 1) := by decide +kernel
theorem d_Law_law_185 : decode code 185 = .ok (.aload_n 0, 1) := by decide +kernel
theorem d_Law_law_186 : decode code 186 = .ok (.iload_n 3, 1) := by decide +kernel
theorem d_Law_law_187 : decode code 187 = .ok (.iconst 2, 1) := by decide +kernel
theorem d_Law_law_188 : decode code 188 = .ok (.iadd, 1) := by decide +kernel
theorem d_Law_law_189 : decode code 189 = .ok (.iaload, 1) := by decide +kernel
theorem d_Law_law_190 : decode code 190 = .ok (.aload_n 0, 1) := by decide +kernel
theorem d_Law_law_191 : decode code 191 = .ok (.iload_n 3, 1) := by decide +kernel
theorem d_Law_law_192 : decode code 192 = .ok (.iconst 3, 1) := by decide +kernel
theorem d_Law_law_193 : decode code 193 = .ok (.iadd, 1) := by decide +kernel
theorem d_Law_law_194 : decode code 194 = .ok (.iaload, 1) := by decide +kernel
theorem d_Law_law_195 : decode code 195 = .ok (.i2l, 1) := by decide +kernel
theorem d_Law_law_196 : decode code 196 = .ok (.bipush 32, 2) := by decide +kernel
theorem d_Law_law_198 : decode code 198 = .ok (.lshl, 1) := by decide +kernel
theorem d_Law_law_199 : decode code 199 = .ok (.aload_n 0, 1) := by decide +kernel
theorem d_Law_law_200 : decode code 200 = .ok (.iload_n 3, 1) := by decide +kernel
theorem d_Law_law_201 : decode code 201 = .ok (.iconst 4, 1) := by decide +kernel
theorem d_Law_law_202 : decode code 202 = .ok (.iadd, 1) := by decide +kernel
theorem d_Law_law_203 : decode code 203 = .ok (.iaload, 1) := by decide +kernel
theorem d_Law_law_204 : decode code 204 = .ok (.i2l, 1) := by decide +kernel
theorem d_Law_law_205 : decode code 205 = .ok (.ldc2_w 21, 3) := by decide +kernel
theorem d_Law_law_208 : decode code 208 = .ok (.land, 1) := by decide +kernel
theorem d_Law_law_209 : decode code 209 = .ok (.lor, 1) := by decide +kernel
theorem d_Law_law_210 : decode code 210 = .ok (.invokevirtual 28, 3) := by decide +kernel
theorem d_Law_law_213 : decode code 213 = .ok (.aload_n 2, 1) := by decide +kernel
theorem d_Law_law_214 : decode code 214 = .ok (.aload_n 0, 1) := by decide +kernel
theorem d_Law_law_215 : decode code 215 = .ok (.iload_n 3, 1) := by decide +kernel
theorem d_Law_law_216 : decode code 216 = .ok (.iconst 1, 1) := by decide +kernel
theorem d_Law_law_217 : decode code 217 = .ok (.iadd, 1) := by decide +kernel
theorem d_Law_law_218 : decode code 218 = .ok (.iaload, 1) := by decide +kernel
theorem d_Law_law_219 : decode code 219 = .ok (.aload_n 0, 1) := by decide +kernel
theorem d_Law_law_220 : decode code 220 = .ok (.iload_n 3, 1) := by decide +kernel
theorem d_Law_law_221 : decode code 221 = .ok (.iconst 2, 1) := by decide +kernel
theorem d_Law_law_222 : decode code 222 = .ok (.iadd, 1) := by decide +kernel
theorem d_Law_law_223 : decode code 223 = .ok (.iaload, 1) := by decide +kernel
theorem d_Law_law_224 : decode code 224 = .ok (.aload_n 0, 1) := by decide +kernel
theorem d_Law_law_225 : decode code 225 = .ok (.iload_n 3, 1) := by decide +kernel
theorem d_Law_law_226 : decode code 226 = .ok (.iconst 3, 1) := by decide +kernel
theorem d_Law_law_227 : decode code 227 = .ok (.iadd, 1) := by decide +kernel
theorem d_Law_law_228 : decode code 228 = .ok (.iaload, 1) := by decide +kernel
theorem d_Law_law_229 : decode code 229 = .ok (.i2l, 1) := by decide +kernel
theorem d_Law_law_230 : decode code 230 = .ok (.bipush 32, 2) := by decide +kernel
theorem d_Law_law_232 : decode code 232 = .ok (.lshl, 1) := by decide +kernel
theorem d_Law_law_233 : decode code 233 = .ok (.aload_n 0, 1) := by decide +kernel
theorem d_Law_law_234 : decode code 234 = .ok (.iload_n 3, 1) := by decide +kernel
theorem d_Law_law_235 : decode code 235 = .ok (.iconst 4, 1) := by decide +kernel
theorem d_Law_law_236 : decode code 236 = .ok (.iadd, 1) := by decide +kernel
theorem d_Law_law_237 : decode code 237 = .ok (.iaload, 1) := by decide +kernel
theorem d_Law_law_238 : decode code 238 = .ok (.i2l, 1) := by decide +kernel
theorem d_Law_law_239 : decode code 239 = .ok (.ldc2_w 21, 3) := by decide +kernel
theorem d_Law_law_242 : decode code 242 = .ok (.land, 1) := by decide +kernel
theorem d_Law_law_243 : decode code 243 = .ok (.lor, 1) := by decide +kernel
theorem d_Law_law_244 : decode code 244 = .ok (.invokevirtual 32, 3) := by decide +kernel
theorem d_Law_law_247 : decode code 247 = .ok (.if_icmp .eq 266, 3) := by decide +kernel
theorem d_Law_law_250 : decode code 250 = .ok (.iconst 0, 1) := by decide +kernel
theorem d_Law_law_251 : decode code 251 = .ok (.ireturn, 1) := by decide +kernel
theorem d_Law_law_252 : decode code 252 = .ok (.aload_n 1, 1) := by decide +kernel
theorem d_Law_law_253 : decode code 253 = .ok (.aload_n 0, 1) := by decide +kernel
theorem d_Law_law_254 : decode code 254 = .ok (.iload_n 3, 1) := by decide +kernel
theorem d_Law_law_255 : decode code 255 = .ok (.iconst 1, 1) := by decide +kernel
theorem d_Law_law_256 : decode code 256 = .ok (.iadd, 1) := by decide +kernel
theorem d_Law_law_257 : decode code 257 = .ok (.iaload, 1) := by decide +kernel
theorem d_Law_law_258 : decode code 258 = .ok (.aload_n 0, 1) := by decide +kernel
theorem d_Law_law_259 : decode code 259 = .ok (.iload_n 3, 1) := by decide +kernel
theorem d_Law_law_260 : decode code 260 = .ok (.iconst 2, 1) := by decide +kernel
theorem d_Law_law_261 : decode code 261 = .ok (.iadd, 1) := by decide +kernel
theorem d_Law_law_262 : decode code 262 = .ok (.iaload, 1) := by decide +kernel
theorem d_Law_law_263 : decode code 263 = .ok (.aload_n 0, 1) := by decide +kernel
theorem d_Law_law_264 : decode code 264 = .ok (.iload_n 3, 1) := by decide +kernel
theorem d_Law_law_265 : decode code 265 = .ok (.iconst 3, 1) := by decide +kernel
theorem d_Law_law_266 : decode code 266 = .ok (.iadd, 1) := by decide +kernel
theorem d_Law_law_267 : decode code 267 = .ok (.iaload, 1) := by decide +kernel
theorem d_Law_law_268 : decode code 268 = .ok (.invokevirtual 33, 3) := by decide +kernel
theorem d_Law_law_271 : decode code 271 = .ok (.aload_n 2, 1) := by decide +kernel
theorem d_Law_law_272 : decode code 272 = .ok (.aload_n 0, 1) := by decide +kernel
theorem d_Law_law_273 : decode code 273 = .ok (.iload_n 3, 1) := by decide +kernel
theorem d_Law_law_274 : decode code 274 = .ok (.iconst 1, 1) := by decide +kernel
theorem d_Law_law_275 : decode code 275 = .ok (.iadd, 1) := by decide +kernel
theorem d_Law_law_276 : decode code 276 = .ok (.iaload, 1) := by decide +kernel
theorem d_Law_law_277 : decode code 277 = .ok (.aload_n 0, 1) := by decide +kernel
theorem d_Law_law_278 : decode code 278 = .ok (.iload_n 3, 1) := by decide +kernel
theorem d_Law_law_279 : decode code 279 = .ok (.iconst 2, 1) := by decide +kernel
theorem d_Law_law_280 : decode code 280 = .ok (.iadd, 1) := by decide +kernel
theorem d_Law_law_281 : decode code 281 = .ok (.iaload, 1) := by decide +kernel
theorem d_Law_law_282 : decode code 282 = .ok (.aload_n 0, 1) := by decide +kernel
theorem d_Law_law_283 : decode code 283 = .ok (.iload_n 3, 1) := by decide +kernel
theorem d_Law_law_284 : decode code 284 = .ok (.iconst 3, 1) := by decide +kernel
theorem d_Law_law_285 : decode code 285 = .ok (.iadd, 1) := by decide +kernel
theorem d_Law_law_286 : decode code 286 = .ok (.iaload, 1) := by decide +kernel
theorem d_Law_law_287 : decode code 287 = .ok (.invokevirtual 37, 3) := by decide +kernel
theorem d_Law_law_290 : decode code 290 = .ok (.if_icmp .eq 223, 3) := by decide +kernel
theorem d_Law_law_293 : decode code 293 = .ok (.iconst 0, 1) := by decide +kernel
theorem d_Law_law_294 : decode code 294 = .ok (.ireturn, 1) := by decide +kernel
theorem d_Law_law_295 : decode code 295 = .ok (.aload_n 1, 1) := by decide +kernel
theorem d_Law_law_296 : decode code 296 = .ok (.aload_n 0, 1) := by decide +kernel
theorem d_Law_law_297 : decode code 297 = .ok (.iload_n 3, 1) := by decide +kernel
theorem d_Law_law_298 : decode code 298 = .ok (.iconst 1, 1) := by decide +kernel
theorem d_Law_law_299 : decode code 299 = .ok (.iadd, 1) := by decide +kernel
theorem d_Law_law_300 : decode code 300 = .ok (.iaload, 1) := by decide +kernel
theorem d_Law_law_301 : decode code 301 = .ok (.aload_n 0, 1) := by decide +kernel
theorem d_Law_law_302 : decode code 302 = .ok (.iload_n 3, 1) := by decide +kernel
theorem d_Law_law_303 : decode code 303 = .ok (.iconst 2, 1) := by decide +kernel
theorem d_Law_law_304 : decode code 304 = .ok (.iadd, 1) := by decide +kernel
theorem d_Law_law_305 : decode code 305 = .ok (.iaload, 1) := by decide +kernel
theorem d_Law_law_306 : decode code 306 = .ok (.invokevirtual 38, 3) := by decide +kernel
theorem d_Law_law_309 : decode code 309 = .ok (.aload_n 2, 1) := by decide +kernel
theorem d_Law_law_310 : decode code 310 = .ok (.aload_n 0, 1) := by decide +kernel
theorem d_Law_law_311 : decode code 311 = .ok (.iload_n 3, 1) := by decide +kernel
theorem d_Law_law_312 : decode code 312 = .ok (.iconst 1, 1) := by decide +kernel
theorem d_Law_law_313 : decode code 313 = .ok (.iadd, 1) := by decide +kernel
theorem d_Law_law_314 : decode code 314 = .ok (.iaload, 1) := by decide +kernel
theorem d_Law_law_315 : decode code 315 = .ok (.aload_n 0, 1) := by decide +kernel
theorem d_Law_law_316 : decode code 316 = .ok (.iload_n 3, 1) := by decide +kernel
theorem d_Law_law_317 : decode code 317 = .ok (.iconst 2, 1) := by decide +kernel
theorem d_Law_law_318 : decode code 318 = .ok (.iadd, 1) := by decide +kernel
theorem d_Law_law_319 : decode code 319 = .ok (.iaload, 1) := by decide +kernel
theorem d_Law_law_320 : decode code 320 = .ok (.invokevirtual 42, 3) := by decide +kernel
theorem d_Law_law_323 : decode code 323 = .ok (.if_icmp .eq 190, 3) := by decide +kernel
theorem d_Law_law_326 : decode code 326 = .ok (.iconst 0, 1) := by decide +kernel
theorem d_Law_law_327 : decode code 327 = .ok (.ireturn, 1) := by decide +kernel
theorem d_Law_law_328 : decode code 328 = .ok (.aload_n 1, 1) := by decide +kernel
theorem d_Law_law_329 : decode code 329 = .ok (.aload_n 0, 1) := by decide +kernel
theorem d_Law_law_330 : decode code 330 = .ok (.iload_n 3, 1) := by decide +kernel
theorem d_Law_law_331 : decode code 331 = .ok (.iconst 1, 1) := by decide +kernel
theorem d_Law_law_332 : decode code 332 = .ok (.iadd, 1) := by decide +kernel
theorem d_Law_law_333 : decode code 333 = .ok (.iaload, 1) := by decide +kernel
theorem d_Law_law_334 : decode code 334 = .ok (.aload_n 0, 1) := by decide +kernel
theorem d_Law_law_335 : decode code 335 = .ok (.iload_n 3, 1) := by decide +kernel
theorem d_Law_law_336 : decode code 336 = .ok (.iconst 2, 1) := by decide +kernel
theorem d_Law_law_337 : decode code 337 = .ok (.iadd, 1) := by decide +kernel
theorem d_Law_law_338 : decode code 338 = .ok (.iaload, 1) := by decide +kernel
theorem d_Law_law_339 : decode code 339 = .ok (.invokevirtual 43, 3) := by decide +kernel
theorem d_Law_law_342 : decode code 342 = .ok (.aload_n 2, 1) := by decide +kernel
theorem d_Law_law_343 : decode code 343 = .ok (.aload_n 0, 1) := by decide +kernel
theorem d_Law_law_344 : decode code 344 = .ok (.iload_n 3, 1) := by decide +kernel
theorem d_Law_law_345 : decode code 345 = .ok (.iconst 1, 1) := by decide +kernel
theorem d_Law_law_346 : decode code 346 = .ok (.iadd, 1) := by decide +kernel
theorem d_Law_law_347 : decode code 347 = .ok (.iaload, 1) := by decide +kernel
theorem d_Law_law_348 : decode code 348 = .ok (.aload_n 0, 1) := by decide +kernel
theorem d_Law_law_349 : decode code 349 = .ok (.iload_n 3, 1) := by decide +kernel
theorem d_Law_law_350 : decode code 350 = .ok (.iconst 2, 1) := by decide +kernel
theorem d_Law_law_351 : decode code 351 = .ok (.iadd, 1) := by decide +kernel
theorem d_Law_law_352 : decode code 352 = .ok (.iaload, 1) := by decide +kernel
theorem d_Law_law_353 : decode code 353 = .ok (.invokevirtual 46, 3) := by decide +kernel
theorem d_Law_law_356 : decode code 356 = .ok (.if_icmp .eq 157, 3) := by decide +kernel
theorem d_Law_law_359 : decode code 359 = .ok (.iconst 0, 1) := by decide +kernel
theorem d_Law_law_360 : decode code 360 = .ok (.ireturn, 1) := by decide +kernel
theorem d_Law_law_361 : decode code 361 = .ok (.aload_n 1, 1) := by decide +kernel
theorem d_Law_law_362 : decode code 362 = .ok (.invokevirtual 47, 3) := by decide +kernel
theorem d_Law_law_365 : decode code 365 = .ok (.aload_n 2, 1) := by decide +kernel
theorem d_Law_law_366 : decode code 366 = .ok (.invokevirtual 51, 3) := by decide +kernel
theorem d_Law_law_369 : decode code 369 = .ok (.if_icmp .eq 144, 3) := by decide +kernel
theorem d_Law_law_372 : decode code 372 = .ok (.iconst 0, 1) := by decide +kernel
theorem d_Law_law_373 : decode code 373 = .ok (.ireturn, 1) := by decide +kernel
theorem d_Law_law_374 : decode code 374 = .ok (.aload_n 1, 1) := by decide +kernel
theorem d_Law_law_375 : decode code 375 = .ok (.aload_n 0, 1) := by decide +kernel
theorem d_Law_law_376 : decode code 376 = .ok (.iload_n 3, 1) := by decide +kernel
theorem d_Law_law_377 : decode code 377 = .ok (.iconst 1, 1) := by decide +kernel
theorem d_Law_law_378 : decode code 378 = .ok (.iadd, 1) := by decide +kernel
theorem d_Law_law_379 : decode code 379 = .ok (.iaload, 1) := by decide +kernel
theorem d_Law_law_380 : decode code 380 = .ok (.invokevirtual 52, 3) := by decide +kernel
theorem d_Law_law_383 : decode code 383 = .ok (.aload_n 2, 1) := by decide +kernel
theorem d_Law_law_384 : decode code 384 = .ok (.aload_n 0, 1) := by decide +kernel
theorem d_Law_law_385 : decode code 385 = .ok (.iload_n 3, 1) := by decide +kernel
theorem d_Law_law_386 : decode code 386 = .ok (.iconst 1, 1) := by decide +kernel
theorem d_Law_law_387 : decode code 387 = .ok (.iadd, 1) := by decide +kernel
theorem d_Law_law_388 : decode code 388 = .ok (.iaload, 1) := by decide +kernel
theorem d_Law_law_389 : decode code 389 = .ok (.invokevirtual 56, 3) := by decide +kernel
theorem d_Law_law_392 : decode code 392 = .ok (.lcmp, 1) := by decide +kernel
theorem d_Law_law_393 : decode code 393 = .ok (.ifCond .eq 120, 3) := by decide +kernel
theorem d_Law_law_396 : decode code 396 = .ok (.iconst 0, 1) := by decide +kernel
theorem d_Law_law_397 : decode code 397 = .ok (.ireturn, 1) := by decide +kernel
theorem d_Law_law_398 : decode code 398 = .ok (.aload_n 1, 1) := by decide +kernel
theorem d_Law_law_399 : decode code 399 = .ok (.aload_n 0, 1) := by decide +kernel
theorem d_Law_law_400 : decode code 400 = .ok (.iload_n 3, 1) := by decide +kernel
theorem d_Law_law_401 : decode code 401 = .ok (.iconst 1, 1) := by decide +kernel
theorem d_Law_law_402 : decode code 402 = .ok (.iadd, 1) := by decide +kernel
theorem d_Law_law_403 : decode code 403 = .ok (.iaload, 1) := by decide +kernel
theorem d_Law_law_404 : decode code 404 = .ok (.aload_n 0, 1) := by decide +kernel
theorem d_Law_law_405 : decode code 405 = .ok (.iload_n 3, 1) := by decide +kernel
theorem d_Law_law_406 : decode code 406 = .ok (.iconst 2, 1) := by decide +kernel
theorem d_Law_law_407 : decode code 407 = .ok (.iadd, 1) := by decide +kernel
theorem d_Law_law_408 : decode code 408 = .ok (.iaload, 1) := by decide +kernel
theorem d_Law_law_409 : decode code 409 = .ok (.aload_n 0, 1) := by decide +kernel
theorem d_Law_law_410 : decode code 410 = .ok (.iload_n 3, 1) := by decide +kernel
theorem d_Law_law_411 : decode code 411 = .ok (.iconst 3, 1) := by decide +kernel
theorem d_Law_law_412 : decode code 412 = .ok (.iadd, 1) := by decide +kernel
theorem d_Law_law_413 : decode code 413 = .ok (.iaload, 1) := by decide +kernel
theorem d_Law_law_414 : decode code 414 = .ok (.invokevirtual 57, 3) := by decide +kernel
theorem d_Law_law_417 : decode code 417 = .ok (.aload_n 2, 1) := by decide +kernel
theorem d_Law_law_418 : decode code 418 = .ok (.aload_n 0, 1) := by decide +kernel
theorem d_Law_law_419 : decode code 419 = .ok (.iload_n 3, 1) := by decide +kernel
theorem d_Law_law_420 : decode code 420 = .ok (.iconst 1, 1) := by decide +kernel
theorem d_Law_law_421 : decode code 421 = .ok (.iadd, 1) := by decide +kernel
theorem d_Law_law_422 : decode code 422 = .ok (.iaload, 1) := by decide +kernel
theorem d_Law_law_423 : decode code 423 = .ok (.aload_n 0, 1) := by decide +kernel
theorem d_Law_law_424 : decode code 424 = .ok (.iload_n 3, 1) := by decide +kernel
theorem d_Law_law_425 : decode code 425 = .ok (.iconst 2, 1) := by decide +kernel
theorem d_Law_law_426 : decode code 426 = .ok (.iadd, 1) := by decide +kernel
theorem d_Law_law_427 : decode code 427 = .ok (.iaload, 1) := by decide +kernel
theorem d_Law_law_428 : decode code 428 = .ok (.aload_n 0, 1) := by decide +kernel
theorem d_Law_law_429 : decode code 429 = .ok (.iload_n 3, 1) := by decide +kernel
theorem d_Law_law_430 : decode code 430 = .ok (.iconst 3, 1) := by decide +kernel
theorem d_Law_law_431 : decode code 431 = .ok (.iadd, 1) := by decide +kernel
theorem d_Law_law_432 : decode code 432 = .ok (.iaload, 1) := by decide +kernel
theorem d_Law_law_433 : decode code 433 = .ok (.invokevirtual 61, 3) := by decide +kernel
theorem d_Law_law_436 : decode code 436 = .ok (.if_icmp .eq 77, 3) := by decide +kernel
theorem d_Law_law_439 : decode code 439 = .ok (.iconst 0, 1) := by decide +kernel
theorem d_Law_law_440 : decode code 440 = .ok (.ireturn, 1) := by decide +kernel
theorem d_Law_law_441 : decode code 441 = .ok (.aload_n 1, 1) := by decide +kernel
theorem d_Law_law_442 : decode code 442 = .ok (.invokevirtual 62, 3) := by decide +kernel
theorem d_Law_law_445 : decode code 445 = .ok (.aload_n 2, 1) := by decide +kernel
theorem d_Law_law_446 : decode code 446 = .ok (.invokevirtual 65, 3) := by decide +kernel
theorem d_Law_law_449 : decode code 449 = .ok (.if_icmp .eq 64, 3) := by decide +kernel
theorem d_Law_law_452 : decode code 452 = .ok (.iconst 0, 1) := by decide +kernel
theorem d_Law_law_453 : decode code 453 = .ok (.ireturn, 1) := by decide +kernel
theorem d_Law_law_454 : decode code 454 = .ok (.aload_n 1, 1) := by decide +kernel
theorem d_Law_law_455 : decode code 455 = .ok (.aload_n 0, 1) := by decide +kernel
theorem d_Law_law_456 : decode code 456 = .ok (.iload_n 3, 1) := by decide +kernel
theorem d_Law_law_457 : decode code 457 = .ok (.iconst 1, 1) := by decide +kernel
theorem d_Law_law_458 : decode code 458 = .ok (.iadd, 1) := by decide +kernel
theorem d_Law_law_459 : decode code 459 = .ok (.iaload, 1) := by decide +kernel
theorem d_Law_law_460 : decode code 460 = .ok (.invokevirtual 66, 3) := by decide +kernel
theorem d_Law_law_463 : decode code 463 = .ok (.aload_n 2, 1) := by decide +kernel
theorem d_Law_law_464 : decode code 464 = .ok (.aload_n 0, 1) := by decide +kernel
theorem d_Law_law_465 : decode code 465 = .ok (.iload_n 3, 1) := by decide +kernel
theorem d_Law_law_466 : decode code 466 = .ok (.iconst 1, 1) := by decide +kernel
theorem d_Law_law_467 : decode code 467 = .ok (.iadd, 1) := by decide +kernel
theorem d_Law_law_468 : decode code 468 = .ok (.iaload, 1) := by decide +kernel
theorem d_Law_law_469 : decode code 469 = .ok (.invokevirtual 70, 3) := by decide +kernel
theorem d_Law_law_472 : decode code 472 = .ok (.if_icmp .eq 41, 3) := by decide +kernel
theorem d_Law_law_475 : decode code 475 = .ok (.iconst 0, 1) := by decide +kernel
theorem d_Law_law_476 : decode code 476 = .ok (.ireturn, 1) := by decide +kernel
theorem d_Law_law_477 : decode code 477 = .ok (.aload_n 1, 1) := by decide +kernel
theorem d_Law_law_478 : decode code 478 = .ok (.invokevirtual 71, 3) := by decide +kernel
theorem d_Law_law_481 : decode code 481 = .ok (.aload_n 2, 1) := by decide +kernel
theorem d_Law_law_482 : decode code 482 = .ok (.invokevirtual 74, 3) := by decide +kernel
theorem d_Law_law_485 : decode code 485 = .ok (.if_icmp .eq 28, 3) := by decide +kernel
theorem d_Law_law_488 : decode code 488 = .ok (.iconst 0, 1) := by decide +kernel
theorem d_Law_law_489 : decode code 489 = .ok (.ireturn, 1) := by decide +kernel
theorem d_Law_law_490 : decode code 490 = .ok (.aload_n 1, 1) := by decide +kernel
theorem d_Law_law_491 : decode code 491 = .ok (.aload_n 0, 1) := by decide +kernel
theorem d_Law_law_492 : decode code 492 = .ok (.iload_n 3, 1) := by decide +kernel
theorem d_Law_law_493 : decode code 493 = .ok (.iconst 1, 1) := by decide +kernel
theorem d_Law_law_494 : decode code 494 = .ok (.iadd, 1) := by decide +kernel
theorem d_Law_law_495 : decode code 495 = .ok (.iaload, 1) := by decide +kernel
theorem d_Law_law_496 : decode code 496 = .ok (.invokevirtual 75, 3) := by decide +kernel
theorem d_Law_law_499 : decode code 499 = .ok (.aload_n 2, 1) := by decide +kernel
theorem d_Law_law_500 : decode code 500 = .ok (.aload_n 0, 1) := by decide +kernel
theorem d_Law_law_501 : decode code 501 = .ok (.iload_n 3, 1) := by decide +kernel
theorem d_Law_law_502 : decode code 502 = .ok (.iconst 1, 1) := by decide +kernel
theorem d_Law_law_503 : decode code 503 = .ok (.iadd, 1) := by decide +kernel
theorem d_Law_law_504 : decode code 504 = .ok (.iaload, 1) := by decide +kernel
theorem d_Law_law_505 : decode code 505 = .ok (.invokevirtual 79, 3) := by decide +kernel
theorem d_Law_law_508 : decode code 508 = .ok (.if_icmp .eq 5, 3) := by decide +kernel
theorem d_Law_law_511 : decode code 511 = .ok (.iconst 0, 1) := by decide +kernel
theorem d_Law_law_512 : decode code 512 = .ok (.ireturn, 1) := by decide +kernel
theorem d_Law_law_513 : decode code 513 = .ok (.iinc 3 5, 3) := by decide +kernel
theorem d_Law_law_516 : decode code 516 = .ok (.goto (-478), 3) := by decide +kernel
theorem d_Law_law_519 : decode code 519 = .ok (.iconst 1, 1) := by decide +kernel
theorem d_Law_law_520 : decode code 520 = .ok (.ireturn, 1) := by decide +kernel

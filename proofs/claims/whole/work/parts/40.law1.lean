def RLaw : String := "WordIndex2Law"
abbrev lw0 : Cond := .initialized RIx
def lwI (K : Nat → ClassId) (X : hwW) (qa qm k : Nat) : Prop := ∃ (its : hwIt) (fs : Nat) (lg : Nat → Nat) (qw : List (List Nat)) (qo qs : Nat) (ss : List (List Nat)) (hs : List (Nat × Nat × Nat)) (sg : List (Nat × Nat)) (st : List (List Nat)) (sd : List Nat), ixAt K X qa its fs lg qw qo qs ss hs ∧ moAt K X qm its sg lg st sd hs ∧ hwR k its fs lg qw qo qs ss hs sg st sd
theorem law_lt {L i : Nat} (hL : L ≤ 2048) (hi : i ≤ 2048) (h : ¬ nI L - nI 4 < nI i) : i + 3 < L := by
  rcases Nat.lt_or_ge L 4 with q | q
  · refine absurd ?_ h
    have h1 := pk_sneg (a := L) (b := 4) (by decide) q
    have h2 : (0 : Int32) ≤ nI i := by rw [← nI_0]; exact nI_le (Nat.zero_le i) (by omega)
    rw [Int32.lt_iff_toInt_lt] at h1 ⊢
    rw [Int32.le_iff_toInt_le] at h2
    omega
  · rw [pk_sub q] at h
    have h2 : ¬ L - 4 < i := fun z => h ((nI_ltI (a := L - 4) (b := i) (by omega) (by omega)).mpr z)
    omega
theorem dLaw_law_0 : decode code 0 = .ok (.new 7, 3) := by decide +kernel
theorem dLaw_law_3 : decode code 3 = .ok (.dup, 1) := by decide +kernel
theorem dLaw_law_4 : decode code 4 = .ok (.invokespecial 9, 3) := by decide +kernel
theorem dLaw_law_7 : decode code 7 = .ok (.astore_n 1, 1) := by decide +kernel
theorem dLaw_law_8 : decode code 8 = .ok (.new 10, 3) := by decide +kernel
theorem dLaw_law_11 : decode code 11 = .ok (.dup, 1) := by decide +kernel
theorem dLaw_law_12 : decode code 12 = .ok (.invokespecial 12, 3) := by decide +kernel
theorem dLaw_law_15 : decode code 15 = .ok (.astore_n 2, 1) := by decide +kernel
theorem dLaw_law_16 : decode code 16 = .ok (.iconst 0, 1) := by decide +kernel
theorem dLaw_law_17 : decode code 17 = .ok (.istore_n 3, 1) := by decide +kernel
theorem dLaw_law_18 : decode code 18 = .ok (.iload_n 3, 1) := by decide +kernel
theorem dLaw_law_19 : decode code 19 = .ok (.aload_n 0, 1) := by decide +kernel
theorem dLaw_law_20 : decode code 20 = .ok (.arraylength, 1) := by decide +kernel
theorem dLaw_law_21 : decode code 21 = .ok (.iconst 4, 1) := by decide +kernel
theorem dLaw_law_22 : decode code 22 = .ok (.isub, 1) := by decide +kernel
theorem dLaw_law_23 : decode code 23 = .ok (.if_icmp .gt 492, 3) := by decide +kernel
theorem dLaw_law_26 : decode code 26 = .ok (.aload_n 0, 1) := by decide +kernel
theorem dLaw_law_27 : decode code 27 = .ok (.iload_n 3, 1) := by decide +kernel
theorem dLaw_law_28 : decode code 28 = .ok (.iaload, 1) := by decide +kernel
theorem dLaw_law_29 : decode code 29 = .ok (.bipush 15, 2) := by decide +kernel
theorem dLaw_law_31 : decode code 31 = .ok (.iand, 1) := by decide +kernel
theorem dLaw_law_32 : decode code 32 = .ok (.tableswitch 477 0 13 #[72, 85, 126, 149, 170, 193, 216, 249, 298, 331, 365, 408, 431, 444], 72) := by decide +kernel
theorem dLaw_law_104 : decode code 104 = .ok (.aload_n 1, 1) := by decide +kernel
theorem dLaw_law_105 : decode code 105 = .ok (.invokevirtual 13, 3) := by decide +kernel
theorem dLaw_law_108 : decode code 108 = .ok (.aload_n 2, 1) := by decide +kernel
theorem dLaw_law_109 : decode code 109 = .ok (.invokevirtual 17, 3) := by decide +kernel
theorem dLaw_law_112 : decode code 112 = .ok (.if_icmp .eq 397, 3) := by decide +kernel
theorem dLaw_law_115 : decode code 115 = .ok (.iconst 0, 1) := by decide +kernel
theorem dLaw_law_116 : decode code 116 = .ok (.ireturn, 1) := by decide +kernel
theorem dLaw_law_117 : decode code 117 = .ok (.aload_n 1, 1) := by decide +kernel
theorem dLaw_law_118 : decode code 118 = .ok (.aload_n 0, 1) := by decide +kernel
theorem dLaw_law_119 : decode code 119 = .ok (.iload_n 3, 1) := by decide +kernel
theorem dLaw_law_120 : decode code 120 = .ok (.iconst 1, 1) := by decide +kernel
theorem dLaw_law_121 : decode code 121 = .ok (.iadd, 1) := by decide +kernel
theorem dLaw_law_122 : decode code 122 = .ok (.iaload, 1) := by decide +kernel
theorem dLaw_law_123 : decode code 123 = .ok (.aload_n 0, 1) := by decide +kernel
theorem dLaw_law_124 : decode code 124 = .ok (.iload_n 3, 1) := by decide +kernel
theorem dLaw_law_125 : decode code 125 = .ok (.iconst 2, 1) := by decide +kernel
theorem dLaw_law_126 : decode code 126 = .ok (.iadd, 1) := by decide +kernel
theorem dLaw_law_127 : decode code 127 = .ok (.iaload, 1) := by decide +kernel
theorem dLaw_law_128 : decode code 128 = .ok (.aload_n 0, 1) := by decide +kernel
theorem dLaw_law_129 : decode code 129 = .ok (.iload_n 3, 1) := by decide +kernel
theorem dLaw_law_130 : decode code 130 = .ok (.iconst 3, 1) := by decide +kernel
theorem dLaw_law_131 : decode code 131 = .ok (.iadd, 1) := by decide +kernel
theorem dLaw_law_132 : decode code 132 = .ok (.iaload, 1) := by decide +kernel
theorem dLaw_law_133 : decode code 133 = .ok (.invokevirtual 18, 3) := by decide +kernel
theorem dLaw_law_136 : decode code 136 = .ok (.aload_n 2, 1) := by decide +kernel
theorem dLaw_law_137 : decode code 137 = .ok (.aload_n 0, 1) := by decide +kernel
theorem dLaw_law_138 : decode code 138 = .ok (.iload_n 3, 1) := by decide +kernel
theorem dLaw_law_139 : decode code 139 = .ok (.iconst 1, 1) := by decide +kernel
theorem dLaw_law_140 : decode code 140 = .ok (.iadd, 1) := by decide +kernel
theorem dLaw_law_141 : decode code 141 = .ok (.iaload, 1) := by decide +kernel
theorem dLaw_law_142 : decode code 142 = .ok (.aload_n 0, 1) := by decide +kernel
theorem dLaw_law_143 : decode code 143 = .ok (.iload_n 3, 1) := by decide +kernel
theorem dLaw_law_144 : decode code 144 = .ok (.iconst 2, 1) := by decide +kernel
theorem dLaw_law_145 : decode code 145 = .ok (.iadd, 1) := by decide +kernel
theorem dLaw_law_146 : decode code 146 = .ok (.iaload, 1) := by decide +kernel
theorem dLaw_law_147 : decode code 147 = .ok (.aload_n 0, 1) := by decide +kernel
theorem dLaw_law_148 : decode code 148 = .ok (.iload_n 3, 1) := by decide +kernel
theorem dLaw_law_149 : decode code 149 = .ok (.iconst 3, 1) := by decide +kernel
theorem dLaw_law_150 : decode code 150 = .ok (.iadd, 1) := by decide +kernel
theorem dLaw_law_151 : decode code 151 = .ok (.iaload, 1) := by decide +kernel
theorem dLaw_law_152 : decode code 152 = .ok (.invokevirtual 22, 3) := by decide +kernel
theorem dLaw_law_155 : decode code 155 = .ok (.goto 354, 3) := by decide +kernel
theorem dLaw_law_158 : decode code 158 = .ok (.aload_n 1, 1) := by decide +kernel
theorem dLaw_law_159 : decode code 159 = .ok (.aload_n 0, 1) := by decide +kernel
theorem dLaw_law_160 : decode code 160 = .ok (.iload_n 3, 1) := by decide +kernel
theorem dLaw_law_161 : decode code 161 = .ok (.iconst 1, 1) := by decide +kernel
theorem dLaw_law_162 : decode code 162 = .ok (.iadd, 1) := by decide +kernel
theorem dLaw_law_163 : decode code 163 = .ok (.iaload, 1) := by decide +kernel
theorem dLaw_law_164 : decode code 164 = .ok (.invokevirtual 23, 3) := by decide +kernel
theorem dLaw_law_167 : decode code 167 = .ok (.aload_n 2, 1) := by decide +kernel
theorem dLaw_law_168 : decode code 168 = .ok (.aload_n 0, 1) := by decide +kernel
theorem dLaw_law_169 : decode code 169 = .ok (.iload_n 3, 1) := by decide +kernel
theorem dLaw_law_170 : decode code 170 = .ok (.iconst 1, 1) := by decide +kernel
theorem dLaw_law_171 : decode code 171 = .ok (.iadd, 1) := by decide +kernel
theorem dLaw_law_172 : decode code 172 = .ok (.iaload, 1) := by decide +kernel
theorem dLaw_law_173 : decode code 173 = .ok (.invokevirtual 27, 3) := by decide +kernel
theorem dLaw_law_176 : decode code 176 = .ok (.if_icmp .eq 333, 3) := by decide +kernel
theorem dLaw_law_179 : decode code 179 = .ok (.iconst 0, 1) := by decide +kernel
theorem dLaw_law_180 : decode code 180 = .ok (.ireturn, 1) := by decide +kernel
theorem dLaw_law_181 : decode code 181 = .ok (.aload_n 1, 1) := by decide +kernel
theorem dLaw_law_182 : decode code 182 = .ok (.aload_n 0, 1) := by decide +kernel
theorem dLaw_law_183 : decode code 183 = .ok (.iload_n 3, 1) := by decide +kernel
theorem dLaw_law_184 : decode code 184 = .ok (.iconst 1, 1) := by decide +kernel
theorem dLaw_law_185 : decode code 185 = .ok (.iadd, 1) := by decide +kernel
theorem dLaw_law_186 : decode code 186 = .ok (.iaload, 1) := by decide +kernel
theorem dLaw_law_187 : decode code 187 = .ok (.invokevirtual 28, 3) := by decide +kernel
theorem dLaw_law_190 : decode code 190 = .ok (.aload_n 2, 1) := by decide +kernel
theorem dLaw_law_191 : decode code 191 = .ok (.aload_n 0, 1) := by decide +kernel
theorem dLaw_law_192 : decode code 192 = .ok (.iload_n 3, 1) := by decide +kernel
theorem dLaw_law_193 : decode code 193 = .ok (.iconst 1, 1) := by decide +kernel
theorem dLaw_law_194 : decode code 194 = .ok (.iadd, 1) := by decide +kernel
theorem dLaw_law_195 : decode code 195 = .ok (.iaload, 1) := by decide +kernel
theorem dLaw_law_196 : decode code 196 = .ok (.invokevirtual 32, 3) := by decide +kernel
theorem dLaw_law_199 : decode code 199 = .ok (.goto 310, 3) := by decide +kernel
theorem dLaw_law_202 : decode code 202 = .ok (.aload_n 1, 1) := by decide +kernel
theorem dLaw_law_203 : decode code 203 = .ok (.aload_n 0, 1) := by decide +kernel
theorem dLaw_law_204 : decode code 204 = .ok (.iload_n 3, 1) := by decide +kernel
theorem dLaw_law_205 : decode code 205 = .ok (.iconst 1, 1) := by decide +kernel
theorem dLaw_law_206 : decode code 206 = .ok (.iadd, 1) := by decide +kernel
theorem dLaw_law_207 : decode code 207 = .ok (.iaload, 1) := by decide +kernel
theorem dLaw_law_208 : decode code 208 = .ok (.invokevirtual 33, 3) := by decide +kernel
theorem dLaw_law_211 : decode code 211 = .ok (.aload_n 2, 1) := by decide +kernel
theorem dLaw_law_212 : decode code 212 = .ok (.aload_n 0, 1) := by decide +kernel
theorem dLaw_law_213 : decode code 213 = .ok (.iload_n 3, 1) := by decide +kernel
theorem dLaw_law_214 : decode code 214 = .ok (.iconst 1, 1) := by decide +kernel
theorem dLaw_law_215 : decode code 215 = .ok (.iadd, 1) := by decide +kernel
theorem dLaw_law_216 : decode code 216 = .ok (.iaload, 1) := by decide +kernel
theorem dLaw_law_217 : decode code 217 = .ok (.invokevirtual 36, 3) := by decide +kernel
theorem dLaw_law_220 : decode code 220 = .ok (.if_icmp .eq 289, 3) := by decide +kernel
theorem dLaw_law_223 : decode code 223 = .ok (.iconst 0, 1) := by decide +kernel
theorem dLaw_law_224 : decode code 224 = .ok (.ireturn, 1) := by decide +kernel
theorem dLaw_law_225 : decode code 225 = .ok (.aload_n 1, 1) := by decide +kernel
theorem dLaw_law_226 : decode code 226 = .ok (.aload_n 0, 1) := by decide +kernel
theorem dLaw_law_227 : decode code 227 = .ok (.iload_n 3, 1) := by decide +kernel
theorem dLaw_law_228 : decode code 228 = .ok (.iconst 1, 1) := by decide +kernel
theorem dLaw_law_229 : decode code 229 = .ok (.iadd, 1) := by decide +kernel
theorem dLaw_law_230 : decode code 230 = .ok (.iaload, 1) := by decide +kernel
theorem dLaw_law_231 : decode code 231 = .ok (.invokevirtual 37, 3) := by decide +kernel
theorem dLaw_law_234 : decode code 234 = .ok (.aload_n 2, 1) := by decide +kernel
theorem dLaw_law_235 : decode code 235 = .ok (.aload_n 0, 1) := by decide +kernel
theorem dLaw_law_236 : decode code 236 = .ok (.iload_n 3, 1) := by decide +kernel
theorem dLaw_law_237 : decode code 237 = .ok (.iconst 1, 1) := by decide +kernel
theorem dLaw_law_238 : decode code 238 = .ok (.iadd, 1) := by decide +kernel
theorem dLaw_law_239 : decode code 239 = .ok (.iaload, 1) := by decide +kernel
theorem dLaw_law_240 : decode code 240 = .ok (.invokevirtual 40, 3) := by decide +kernel
theorem dLaw_law_243 : decode code 243 = .ok (.if_icmp .eq 266, 3) := by decide +kernel
theorem dLaw_law_246 : decode code 246 = .ok (.iconst 0, 1) := by decide +kernel
theorem dLaw_law_247 : decode code 247 = .ok (.ireturn, 1) := by decide +kernel
theorem dLaw_law_248 : decode code 248 = .ok (.aload_n 1, 1) := by decide +kernel
theorem dLaw_law_249 : decode code 249 = .ok (.aload_n 0, 1) := by decide +kernel
theorem dLaw_law_250 : decode code 250 = .ok (.iload_n 3, 1) := by decide +kernel
theorem dLaw_law_251 : decode code 251 = .ok (.iconst 1, 1) := by decide +kernel
theorem dLaw_law_252 : decode code 252 = .ok (.iadd, 1) := by decide +kernel
theorem dLaw_law_253 : decode code 253 = .ok (.iaload, 1) := by decide +kernel
theorem dLaw_law_254 : decode code 254 = .ok (.aload_n 0, 1) := by decide +kernel
theorem dLaw_law_255 : decode code 255 = .ok (.iload_n 3, 1) := by decide +kernel
theorem dLaw_law_256 : decode code 256 = .ok (.iconst 2, 1) := by decide +kernel
theorem dLaw_law_257 : decode code 257 = .ok (.iadd, 1) := by decide +kernel
theorem dLaw_law_258 : decode code 258 = .ok (.iaload, 1) := by decide +kernel
theorem dLaw_law_259 : decode code 259 = .ok (.invokevirtual 41, 3) := by decide +kernel
theorem dLaw_law_262 : decode code 262 = .ok (.aload_n 2, 1) := by decide +kernel
theorem dLaw_law_263 : decode code 263 = .ok (.aload_n 0, 1) := by decide +kernel
theorem dLaw_law_264 : decode code 264 = .ok (.iload_n 3, 1) := by decide +kernel
theorem dLaw_law_265 : decode code 265 = .ok (.iconst 1, 1) := by decide +kernel
theorem dLaw_law_266 : decode code 266 = .ok (.iadd, 1) := by decide +kernel
theorem dLaw_law_267 : decode code 267 = .ok (.iaload, 1) := by decide +kernel
theorem dLaw_law_268 : decode code 268 = .ok (.aload_n 0, 1) := by decide +kernel
theorem dLaw_law_269 : decode code 269 = .ok (.iload_n 3, 1) := by decide +kernel
theorem dLaw_law_270 : decode code 270 = .ok (.iconst 2, 1) := by decide +kernel
theorem dLaw_law_271 : decode code 271 = .ok (.iadd, 1) := by decide +kernel
theorem dLaw_law_272 : decode code 272 = .ok (.iaload, 1) := by decide +kernel
theorem dLaw_law_273 : decode code 273 = .ok (.invokevirtual 45, 3) := by decide +kernel
theorem dLaw_law_276 : decode code 276 = .ok (.if_icmp .eq 233, 3) := by decide +kernel
theorem dLaw_law_279 : decode code 279 = .ok (.iconst 0, 1) := by decide +kernel
theorem dLaw_law_280 : decode code 280 = .ok (.ireturn, 1) := by decide +kernel
theorem dLaw_law_281 : decode code 281 = .ok (.aload_n 1, 1) := by decide +kernel
theorem dLaw_law_282 : decode code 282 = .ok (.aload_n 0, 1) := by decide +kernel
theorem dLaw_law_283 : decode code 283 = .ok (.iload_n 3, 1) := by decide +kernel
theorem dLaw_law_284 : decode code 284 = .ok (.iconst 1, 1) := by decide +kernel
theorem dLaw_law_285 : decode code 285 = .ok (.iadd, 1) := by decide +kernel
theorem dLaw_law_286 : decode code 286 = .ok (.iaload, 1) := by decide +kernel
theorem dLaw_law_287 : decode code 287 = .ok (.aload_n 0, 1) := by decide +kernel
theorem dLaw_law_288 : decode code 288 = .ok (.iload_n 3, 1) := by decide +kernel
theorem dLaw_law_289 : decode code 289 = .ok (.iconst 2, 1) := by decide +kernel
theorem dLaw_law_290 : decode code 290 = .ok (.iadd, 1) := by decide +kernel
theorem dLaw_law_291 : decode code 291 = .ok (.iaload, 1) := by decide +kernel
theorem dLaw_law_292 : decode code 292 = .ok (.ifCond .eq 7, 3) := by decide +kernel
theorem dLaw_law_295 : decode code 295 = .ok (.iconst 1, 1) := by decide +kernel
theorem dLaw_law_296 : decode code 296 = .ok (.goto 4, 3) := by decide +kernel
theorem dLaw_law_299 : decode code 299 = .ok (.iconst 0, 1) := by decide +kernel
theorem dLaw_law_300 : decode code 300 = .ok (.invokevirtual 46, 3) := by decide +kernel
theorem dLaw_law_303 : decode code 303 = .ok (.aload_n 2, 1) := by decide +kernel
theorem dLaw_law_304 : decode code 304 = .ok (.aload_n 0, 1) := by decide +kernel
theorem dLaw_law_305 : decode code 305 = .ok (.iload_n 3, 1) := by decide +kernel
theorem dLaw_law_306 : decode code 306 = .ok (.iconst 1, 1) := by decide +kernel
theorem dLaw_law_307 : decode code 307 = .ok (.iadd, 1) := by decide +kernel
theorem dLaw_law_308 : decode code 308 = .ok (.iaload, 1) := by decide +kernel
theorem dLaw_law_309 : decode code 309 = .ok (.aload_n 0, 1) := by decide +kernel
theorem dLaw_law_310 : decode code 310 = .ok (.iload_n 3, 1) := by decide +kernel
theorem dLaw_law_311 : decode code 311 = .ok (.iconst 2, 1) := by decide +kernel
theorem dLaw_law_312 : decode code 312 = .ok (.iadd, 1) := by decide +kernel
theorem dLaw_law_313 : decode code 313 = .ok (.iaload, 1) := by decide +kernel
theorem dLaw_law_314 : decode code 314 = .ok (.ifCond .eq 7, 3) := by decide +kernel
theorem dLaw_law_317 : decode code 317 = .ok (.iconst 1, 1) := by decide +kernel
theorem dLaw_law_318 : decode code 318 = .ok (.goto 4, 3) := by decide +kernel
theorem dLaw_law_321 : decode code 321 = .ok (.iconst 0, 1) := by decide +kernel
theorem dLaw_law_322 : decode code 322 = .ok (.invokevirtual 50, 3) := by decide +kernel
theorem dLaw_law_325 : decode code 325 = .ok (.if_icmp .eq 184, 3) := by decide +kernel
theorem dLaw_law_328 : decode code 328 = .ok (.iconst 0, 1) := by decide +kernel
theorem dLaw_law_329 : decode code 329 = .ok (.ireturn, 1) := by decide +kernel
theorem dLaw_law_330 : decode code 330 = .ok (.aload_n 1, 1) := by decide +kernel
theorem dLaw_law_331 : decode code 331 = .ok (.aload_n 0, 1) := by decide +kernel
theorem dLaw_law_332 : decode code 332 = .ok (.iload_n 3, 1) := by decide +kernel
theorem dLaw_law_333 : decode code 333 = .ok (.iconst 1, 1) := by decide +kernel
theorem dLaw_law_334 : decode code 334 = .ok (.iadd, 1) := by decide +kernel
theorem dLaw_law_335 : decode code 335 = .ok (.iaload, 1) := by decide +kernel
theorem dLaw_law_336 : decode code 336 = .ok (.aload_n 0, 1) := by decide +kernel
theorem dLaw_law_337 : decode code 337 = .ok (.iload_n 3, 1) := by decide +kernel
theorem dLaw_law_338 : decode code 338 = .ok (.iconst 2, 1) := by decide +kernel
theorem dLaw_law_339 : decode code 339 = .ok (.iadd, 1) := by decide +kernel
theorem dLaw_law_340 : decode code 340 = .ok (.iaload, 1) := by decide +kernel
theorem dLaw_law_341 : decode code 341 = .ok (.invokevirtual 51, 3) := by decide +kernel
theorem dLaw_law_344 : decode code 344 = .ok (.aload_n 2, 1) := by decide +kernel
theorem dLaw_law_345 : decode code 345 = .ok (.aload_n 0, 1) := by decide +kernel
theorem dLaw_law_346 : decode code 346 = .ok (.iload_n 3, 1) := by decide +kernel
theorem dLaw_law_347 : decode code 347 = .ok (.iconst 1, 1) := by decide +kernel
theorem dLaw_law_348 : decode code 348 = .ok (.iadd, 1) := by decide +kernel
theorem dLaw_law_349 : decode code 349 = .ok (.iaload, 1) := by decide +kernel
theorem dLaw_law_350 : decode code 350 = .ok (.aload_n 0, 1) := by decide +kernel
theorem dLaw_law_351 : decode code 351 = .ok (.iload_n 3, 1) := by decide +kernel
theorem dLaw_law_352 : decode code 352 = .ok (.iconst 2, 1) := by decide +kernel
theorem dLaw_law_353 : decode code 353 = .ok (.iadd, 1) := by decide +kernel
theorem dLaw_law_354 : decode code 354 = .ok (.iaload, 1) := by decide +kernel
theorem dLaw_law_355 : decode code 355 = .ok (.invokevirtual 54, 3) := by decide +kernel
theorem dLaw_law_358 : decode code 358 = .ok (.if_icmp .eq 151, 3) := by decide +kernel
theorem dLaw_law_361 : decode code 361 = .ok (.iconst 0, 1) := by decide +kernel
theorem dLaw_law_362 : decode code 362 = .ok (.ireturn, 1) := by decide +kernel
theorem dLaw_law_363 : decode code 363 = .ok (.aload_n 1, 1) := by decide +kernel
theorem dLaw_law_364 : decode code 364 = .ok (.aload_n 0, 1) := by decide +kernel
theorem dLaw_law_365 : decode code 365 = .ok (.iload_n 3, 1) := by decide +kernel
theorem dLaw_law_366 : decode code 366 = .ok (.iconst 1, 1) := by decide +kernel
theorem dLaw_law_367 : decode code 367 = .ok (.iadd, 1) := by decide +kernel
theorem dLaw_law_368 : decode code 368 = .ok (.iaload, 1) := by decide +kernel
theorem dLaw_law_369 : decode code 369 = .ok (.aload_n 0, 1) := by decide +kernel
theorem dLaw_law_370 : decode code 370 = .ok (.iload_n 3, 1) := by decide +kernel
theorem dLaw_law_371 : decode code 371 = .ok (.iconst 2, 1) := by decide +kernel
theorem dLaw_law_372 : decode code 372 = .ok (.iadd, 1) := by decide +kernel
theorem dLaw_law_373 : decode code 373 = .ok (.iaload, 1) := by decide +kernel
theorem dLaw_law_374 : decode code 374 = .ok (.invokevirtual 55, 3) := by decide +kernel
theorem dLaw_law_377 : decode code 377 = .ok (.aload_n 2, 1) := by decide +kernel
theorem dLaw_law_378 : decode code 378 = .ok (.aload_n 0, 1) := by decide +kernel
theorem dLaw_law_379 : decode code 379 = .ok (.iload_n 3, 1) := by decide +kernel
theorem dLaw_law_380 : decode code 380 = .ok (.iconst 1, 1) := by decide +kernel
theorem dLaw_law_381 : decode code 381 = .ok (.iadd, 1) := by decide +kernel
theorem dLaw_law_382 : decode code 382 = .ok (.iaload, 1) := by decide +kernel
theorem dLaw_law_383 : decode code 383 = .ok (.aload_n 0, 1) := by decide +kernel
theorem dLaw_law_384 : decode code 384 = .ok (.iload_n 3, 1) := by decide +kernel
theorem dLaw_law_385 : decode code 385 = .ok (.iconst 2, 1) := by decide +kernel
theorem dLaw_law_386 : decode code 386 = .ok (.iadd, 1) := by decide +kernel
theorem dLaw_law_387 : decode code 387 = .ok (.iaload, 1) := by decide +kernel
theorem dLaw_law_388 : decode code 388 = .ok (.invokevirtual 59, 3) := by decide +kernel
theorem dLaw_law_391 : decode code 391 = .ok (.lcmp, 1) := by decide +kernel
theorem dLaw_law_392 : decode code 392 = .ok (.ifCond .eq 117, 3) := by decide +kernel
theorem dLaw_law_395 : decode code 395 = .ok (.iconst 0, 1) := by decide +kernel
theorem dLaw_law_396 : decode code 396 = .ok (.ireturn, 1) := by decide +kernel
theorem dLaw_law_397 : decode code 397 = .ok (.aload_n 1, 1) := by decide +kernel
theorem dLaw_law_398 : decode code 398 = .ok (.aload_n 0, 1) := by decide +kernel
theorem dLaw_law_399 : decode code 399 = .ok (.iload_n 3, 1) := by decide +kernel
theorem dLaw_law_400 : decode code 400 = .ok (.iconst 1, 1) := by decide +kernel
theorem dLaw_law_401 : decode code 401 = .ok (.iadd, 1) := by decide +kernel
theorem dLaw_law_402 : decode code 402 = .ok (.iaload, 1) := by decide +kernel
theorem dLaw_law_403 : decode code 403 = .ok (.aload_n 0, 1) := by decide +kernel
theorem dLaw_law_404 : decode code 404 = .ok (.iload_n 3, 1) := by decide +kernel
theorem dLaw_law_405 : decode code 405 = .ok (.iconst 2, 1) := by decide +kernel
theorem dLaw_law_406 : decode code 406 = .ok (.iadd, 1) := by decide +kernel
theorem dLaw_law_407 : decode code 407 = .ok (.iaload, 1) := by decide +kernel
theorem dLaw_law_408 : decode code 408 = .ok (.aload_n 0, 1) := by decide +kernel
theorem dLaw_law_409 : decode code 409 = .ok (.iload_n 3, 1) := by decide +kernel
theorem dLaw_law_410 : decode code 410 = .ok (.iconst 3, 1) := by decide +kernel
theorem dLaw_law_411 : decode code 411 = .ok (.iadd, 1) := by decide +kernel
theorem dLaw_law_412 : decode code 412 = .ok (.iaload, 1) := by decide +kernel
theorem dLaw_law_413 : decode code 413 = .ok (.invokevirtual 60, 3) := by decide +kernel
theorem dLaw_law_416 : decode code 416 = .ok (.aload_n 2, 1) := by decide +kernel
theorem dLaw_law_417 : decode code 417 = .ok (.aload_n 0, 1) := by decide +kernel
theorem dLaw_law_418 : decode code 418 = .ok (.iload_n 3, 1) := by decide +kernel
theorem dLaw_law_419 : decode code 419 = .ok (.iconst 1, 1) := by decide +kernel
theorem dLaw_law_420 : decode code 420 = .ok (.iadd, 1) := by decide +kernel
theorem dLaw_law_421 : decode code 421 = .ok (.iaload, 1) := by decide +kernel
theorem dLaw_law_422 : decode code 422 = .ok (.aload_n 0, 1) := by decide +kernel
theorem dLaw_law_423 : decode code 423 = .ok (.iload_n 3, 1) := by decide +kernel
theorem dLaw_law_424 : decode code 424 = .ok (.iconst 2, 1) := by decide +kernel
theorem dLaw_law_425 : decode code 425 = .ok (.iadd, 1) := by decide +kernel
theorem dLaw_law_426 : decode code 426 = .ok (.iaload, 1) := by decide +kernel
theorem dLaw_law_427 : decode code 427 = .ok (.aload_n 0, 1) := by decide +kernel
theorem dLaw_law_428 : decode code 428 = .ok (.iload_n 3, 1) := by decide +kernel
theorem dLaw_law_429 : decode code 429 = .ok (.iconst 3, 1) := by decide +kernel
theorem dLaw_law_430 : decode code 430 = .ok (.iadd, 1) := by decide +kernel
theorem dLaw_law_431 : decode code 431 = .ok (.iaload, 1) := by decide +kernel
theorem dLaw_law_432 : decode code 432 = .ok (.invokevirtual 64, 3) := by decide +kernel
theorem dLaw_law_435 : decode code 435 = .ok (.if_icmp .eq 74, 3) := by decide +kernel
theorem dLaw_law_438 : decode code 438 = .ok (.iconst 0, 1) := by decide +kernel
theorem dLaw_law_439 : decode code 439 = .ok (.ireturn, 1) := by decide +kernel
theorem dLaw_law_440 : decode code 440 = .ok (.aload_n 1, 1) := by decide +kernel
theorem dLaw_law_441 : decode code 441 = .ok (.aload_n 0, 1) := by decide +kernel
theorem dLaw_law_442 : decode code 442 = .ok (.iload_n 3, 1) := by decide +kernel
theorem dLaw_law_443 : decode code 443 = .ok (.iconst 1, 1) := by decide +kernel
theorem dLaw_law_444 : decode code 444 = .ok (.iadd, 1) := by decide +kernel
theorem dLaw_law_445 : decode code 445 = .ok (.iaload, 1) := by decide +kernel
theorem dLaw_law_446 : decode code 446 = .ok (.invokevirtual 65, 3) := by decide +kernel
theorem dLaw_law_449 : decode code 449 = .ok (.aload_n 2, 1) := by decide +kernel
theorem dLaw_law_450 : decode code 450 = .ok (.aload_n 0, 1) := by decide +kernel
theorem dLaw_law_451 : decode code 451 = .ok (.iload_n 3, 1) := by decide +kernel
theorem dLaw_law_452 : decode code 452 = .ok (.iconst 1, 1) := by decide +kernel
theorem dLaw_law_453 : decode code 453 = .ok (.iadd, 1) := by decide +kernel
theorem dLaw_law_454 : decode code 454 = .ok (.iaload, 1) := by decide +kernel
theorem dLaw_law_455 : decode code 455 = .ok (.invokevirtual 68, 3) := by decide +kernel
theorem dLaw_law_458 : decode code 458 = .ok (.if_icmp .eq 51, 3) := by decide +kernel
theorem dLaw_law_461 : decode code 461 = .ok (.iconst 0, 1) := by decide +kernel
theorem dLaw_law_462 : decode code 462 = .ok (.ireturn, 1) := by decide +kernel
theorem dLaw_law_463 : decode code 463 = .ok (.aload_n 1, 1) := by decide +kernel
theorem dLaw_law_464 : decode code 464 = .ok (.invokevirtual 69, 3) := by decide +kernel
theorem dLaw_law_467 : decode code 467 = .ok (.aload_n 2, 1) := by decide +kernel
theorem dLaw_law_468 : decode code 468 = .ok (.invokevirtual 72, 3) := by decide +kernel
theorem dLaw_law_471 : decode code 471 = .ok (.if_icmp .eq 38, 3) := by decide +kernel
theorem dLaw_law_474 : decode code 474 = .ok (.iconst 0, 1) := by decide +kernel
theorem dLaw_law_475 : decode code 475 = .ok (.ireturn, 1) := by decide +kernel
theorem dLaw_law_476 : decode code 476 = .ok (.aload_n 1, 1) := by decide +kernel
theorem dLaw_law_477 : decode code 477 = .ok (.aload_n 0, 1) := by decide +kernel
theorem dLaw_law_478 : decode code 478 = .ok (.iload_n 3, 1) := by decide +kernel
theorem dLaw_law_479 : decode code 479 = .ok (.iconst 1, 1) := by decide +kernel
theorem dLaw_law_480 : decode code 480 = .ok (.iadd, 1) := by decide +kernel
theorem dLaw_law_481 : decode code 481 = .ok (.iaload, 1) := by decide +kernel
theorem dLaw_law_482 : decode code 482 = .ok (.aload_n 0, 1) := by decide +kernel
theorem dLaw_law_483 : decode code 483 = .ok (.iload_n 3, 1) := by decide +kernel
theorem dLaw_law_484 : decode code 484 = .ok (.iconst 2, 1) := by decide +kernel
theorem dLaw_law_485 : decode code 485 = .ok (.iadd, 1) := by decide +kernel
theorem dLaw_law_486 : decode code 486 = .ok (.iaload, 1) := by decide +kernel
theorem dLaw_law_487 : decode code 487 = .ok (.invokevirtual 73, 3) := by decide +kernel
theorem dLaw_law_490 : decode code 490 = .ok (.aload_n 2, 1) := by decide +kernel
theorem dLaw_law_491 : decode code 491 = .ok (.aload_n 0, 1) := by decide +kernel
theorem dLaw_law_492 : decode code 492 = .ok (.iload_n 3, 1) := by decide +kernel
theorem dLaw_law_493 : decode code 493 = .ok (.iconst 1, 1) := by decide +kernel
theorem dLaw_law_494 : decode code 494 = .ok (.iadd, 1) := by decide +kernel
theorem dLaw_law_495 : decode code 495 = .ok (.iaload, 1) := by decide +kernel
theorem dLaw_law_496 : decode code 496 = .ok (.aload_n 0, 1) := by decide +kernel
theorem dLaw_law_497 : decode code 497 = .ok (.iload_n 3, 1) := by decide +kernel
theorem dLaw_law_498 : decode code 498 = .ok (.iconst 2, 1) := by decide +kernel
theorem dLaw_law_499 : decode code 499 = .ok (.iadd, 1) := by decide +kernel
theorem dLaw_law_500 : decode code 500 = .ok (.iaload, 1) := by decide +kernel
theorem dLaw_law_501 : decode code 501 = .ok (.invokevirtual 76, 3) := by decide +kernel
theorem dLaw_law_504 : decode code 504 = .ok (.if_icmp .eq 5, 3) := by decide +kernel
theorem dLaw_law_507 : decode code 507 = .ok (.iconst 0, 1) := by decide +kernel
theorem dLaw_law_508 : decode code 508 = .ok (.ireturn, 1) := by decide +kernel
theorem dLaw_law_509 : decode code 509 = .ok (.iinc 3 4, 3) := by decide +kernel
theorem dLaw_law_512 : decode code 512 = .ok (.goto (-494), 3) := by decide +kernel
theorem dLaw_law_515 : decode code 515 = .ok (.iconst 1, 1) := by decide +kernel
theorem dLaw_law_516 : decode code 516 = .ok (.ireturn, 1) := by decide +kernel
theorem mm_488 : (.code yIx_record cIx_record 1 (some .int) : Cond) ∈ hwG := hwIx 166 (by decide +kernel) (by decide +kernel)
theorem mm_489 : (.methodLink RLaw 13 yIx_record : Cond) ∈ hwG := hwIx 163 (by decide +kernel) (by decide +kernel)
theorem mm_490 : (.instanceMethod yIx_record : Cond) ∈ hwG := hwIx 164 (by decide +kernel) (by decide +kernel)
theorem mm_491 : (.selects RIx yIx_record yIx_record : Cond) ∈ hwG := hwIx 165 (by decide +kernel) (by decide +kernel)
theorem mm_492 : (.code yMo_record cMo_record 1 (some .int) : Cond) ∈ hwG := hwIx 633 (by decide +kernel) (by decide +kernel)
theorem mm_493 : (.methodLink RLaw 17 yMo_record : Cond) ∈ hwG := hwIx 630 (by decide +kernel) (by decide +kernel)
theorem mm_494 : (.instanceMethod yMo_record : Cond) ∈ hwG := hwIx 631 (by decide +kernel) (by decide +kernel)
theorem mm_495 : (.selects RMo yMo_record yMo_record : Cond) ∈ hwG := hwIx 632 (by decide +kernel) (by decide +kernel)
theorem mm_496 : (.code yIx_field cIx_field 5 none : Cond) ∈ hwG := hwIx 186 (by decide +kernel) (by decide +kernel)
theorem mm_497 : (.methodLink RLaw 18 yIx_field : Cond) ∈ hwG := hwIx 183 (by decide +kernel) (by decide +kernel)
theorem mm_498 : (.instanceMethod yIx_field : Cond) ∈ hwG := hwIx 184 (by decide +kernel) (by decide +kernel)
theorem mm_499 : (.selects RIx yIx_field yIx_field : Cond) ∈ hwG := hwIx 185 (by decide +kernel) (by decide +kernel)
theorem mm_500 : (.code yMo_field cMo_field 4 none : Cond) ∈ hwG := hwIx 637 (by decide +kernel) (by decide +kernel)
theorem mm_501 : (.methodLink RLaw 22 yMo_field : Cond) ∈ hwG := hwIx 634 (by decide +kernel) (by decide +kernel)
theorem mm_502 : (.instanceMethod yMo_field : Cond) ∈ hwG := hwIx 635 (by decide +kernel) (by decide +kernel)
theorem mm_503 : (.selects RMo yMo_field yMo_field : Cond) ∈ hwG := hwIx 636 (by decide +kernel) (by decide +kernel)
theorem mm_504 : (.code yIx_remove cIx_remove 3 (some .int) : Cond) ∈ hwG := hwIx 235 (by decide +kernel) (by decide +kernel)
theorem mm_505 : (.methodLink RLaw 23 yIx_remove : Cond) ∈ hwG := hwIx 232 (by decide +kernel) (by decide +kernel)
theorem mm_506 : (.instanceMethod yIx_remove : Cond) ∈ hwG := hwIx 233 (by decide +kernel) (by decide +kernel)
theorem mm_507 : (.selects RIx yIx_remove yIx_remove : Cond) ∈ hwG := hwIx 234 (by decide +kernel) (by decide +kernel)
theorem mm_508 : (.code yMo_remove cMo_remove 2 (some .int) : Cond) ∈ hwG := hwIx 644 (by decide +kernel) (by decide +kernel)
theorem mm_509 : (.methodLink RLaw 27 yMo_remove : Cond) ∈ hwG := hwIx 641 (by decide +kernel) (by decide +kernel)
theorem mm_510 : (.instanceMethod yMo_remove : Cond) ∈ hwG := hwIx 642 (by decide +kernel) (by decide +kernel)
theorem mm_511 : (.selects RMo yMo_remove yMo_remove : Cond) ∈ hwG := hwIx 643 (by decide +kernel) (by decide +kernel)
theorem mm_512 : (.code yIx_sign cIx_sign 2 none : Cond) ∈ hwG := hwIx 239 (by decide +kernel) (by decide +kernel)
theorem mm_513 : (.methodLink RLaw 28 yIx_sign : Cond) ∈ hwG := hwIx 236 (by decide +kernel) (by decide +kernel)
theorem mm_514 : (.instanceMethod yIx_sign : Cond) ∈ hwG := hwIx 237 (by decide +kernel) (by decide +kernel)
theorem mm_515 : (.selects RIx yIx_sign yIx_sign : Cond) ∈ hwG := hwIx 238 (by decide +kernel) (by decide +kernel)
theorem mm_516 : (.code yMo_sign cMo_sign 2 none : Cond) ∈ hwG := hwIx 648 (by decide +kernel) (by decide +kernel)
theorem mm_517 : (.methodLink RLaw 32 yMo_sign : Cond) ∈ hwG := hwIx 645 (by decide +kernel) (by decide +kernel)
theorem mm_518 : (.instanceMethod yMo_sign : Cond) ∈ hwG := hwIx 646 (by decide +kernel) (by decide +kernel)
theorem mm_519 : (.selects RMo yMo_sign yMo_sign : Cond) ∈ hwG := hwIx 647 (by decide +kernel) (by decide +kernel)
set_option maxHeartbeats 4000000 in
set_option maxRecDepth 100000 in
theorem law_c0 {p : Program} {l : Launch} {e : Env} {s : State} {m : MethodId} {below : List Frame} {meth : Method} {c : Code} {D : va_G} {K : Nat → ClassId} {b L : Nat} {xs : Nat → Int32} {Q : State → Prop} (hx : p.tables.exec = Jvm.exec) (hb : c.code = code) (hml : c.maxLocals = 4) (hown : s.vm.findClass RLaw = some m.cls) (hts : ∀ w ∈ lw0 :: hwG, w.before #[Value.ref b] s = true) (hX0 : va_X b L xs s s.heap) (hbl : b < s.heap.size) (hK : va_K D vwCl (hwT K) s) (hO : hwO (hwT K) s) (hL : L ≤ 2048) {i k qa qm cl0 sl0 : Nat} {X : hwW} {H : Heap} {locs : List Loc} {ls : Array Slot} (hi : i + 3 < L) (hk : k ≤ 512) (hcc : cl0 + 10 ≤ 659988) (hss : sl0 + 1300 ≤ 7122284) (hZ : hwZ D vwCl (fun q : Nat => s.heap.size ≤ q) s.heap X H locs) (hl : lv_has ls 4 [(3, .int (nI i)), (2, .ref qm), (1, .ref qa), (0, .ref b)]) (hI : lwI K X qa qm k) (kk : ∀ (Y : hwW) (H1 : Heap) (locs1 : List Loc), hwZ D vwCl (fun q : Nat => s.heap.size ≤ q) s.heap Y H1 locs1 → lwI K Y qa qm (k + 1) → W p l e room_1 s m #[Value.ref b] below meth c H1 locs1 (cl0 + 10) (sl0 + 1300) Q (F0 m 509 ls [])) : W p l e room_1 s m #[Value.ref b] below meth c H locs cl0 sl0 Q (F0 m 104 ls []) := by
  obtain ⟨its, fs, lg, qw, qo, qs, ss, hs, sg, st, sd, f0, f1, hR⟩ := hI
  have ok := hR.okS (by omega)
  have okm := hR.okM (by omega)
  have hA : ∀ q : Nat, s.heap.size ≤ q → (fun q : Nat => s.heap.size ≤ q) q := fun _ h => h
  have hbA : ¬ (fun q : Nat => s.heap.size ≤ q) b := Nat.not_le.mpr hbl
  have hR2 := hR.record
  have hn30 := hR2.n30
  refine lv_aload_n hx hb dLaw_law_104 rfl (lv_at hl 2 rfl) ?_
  refine hw_calli (va_runV (As := []) (rest := []) ⟨hx, hb, hml, hown, hts⟩ (p_record l D K X H.size qa its fs lg qw qo qs ss hs  f0 ok) (cwV 0 hts (hwGood (hw_4 mm_489 mm_490 mm_491 mm_188 (hwAll mm_488))) rfl rfl rfl (by decide +kernel) ⟨Nat.le_of_ble_eq_true rfl, Nat.le_of_ble_eq_true rfl⟩) (hw_preV hK hO hZ (ixAt.ob f0) rfl) rfl rfl hl.1 rfl (lv_room (Nat.le_of_ble_eq_true rfl)) dLaw_law_105 ⟨(show cl0 + 10 ≤ 659988 by omega), (show sl0 + 34 ≤ 7122284 by omega)⟩) hZ hA (fun r1 X1 H1 lc1 hp hZ => ?_)
  obtain ⟨hr1, hF, hN⟩ := hp
  have f1 := moAt.fr hF (fun M hM hM2 hNS => by ((try dsimp only at hNS); omega)) f1
  have f0 := hN
  refine lv_aload_n hx hb dLaw_law_108 rfl (lv_at hl 1 rfl) ?_
  refine hw_calli (va_runV (As := []) (rest := [.int r1]) ⟨hx, hb, hml, hown, hts⟩ (q_record l D K X1 H1.size qm its sg lg st sd hs  f1 okm) (cwV 0 hts (hwGood (hw_4 mm_493 mm_494 mm_495 mm_365 (hwAll mm_492))) rfl rfl rfl (by decide +kernel) ⟨Nat.le_of_ble_eq_true rfl, Nat.le_of_ble_eq_true rfl⟩) (hw_preV hK hO hZ (moAt.ob f1) rfl) rfl rfl hl.1 rfl (lv_room (Nat.le_of_ble_eq_true rfl)) dLaw_law_109 ⟨(show (cl0 + 10) + 0 ≤ 659988 by omega), (show (sl0 + 34) + 0 ≤ 7122284 by omega)⟩) hZ hA (fun r2 X2 H2 lc2 hp hZ => ?_)
  obtain ⟨hr2, hF, hN⟩ := hp
  have f0 := ixAt.fr hF (fun M hM hNS => by ((try dsimp only at hNS); omega)) hn30 f0
  have f1 := hN
  refine lv_icmp_eq (tgt := 509) hx hb dLaw_law_112 (by decide) (fun _ => ?_) (fun c9 => absurd (hr1.trans hr2.symm) c9)
  refine W.widen (k := cl0 + 10) (n := sl0 + 1300) (by omega) (by omega) ?_
  exact kk _ _ _ hZ ⟨_, _, _, _, _, _, _, _, _, _, _, f0, f1, hR2⟩
set_option maxHeartbeats 4000000 in
set_option maxRecDepth 100000 in
theorem law_c1 {p : Program} {l : Launch} {e : Env} {s : State} {m : MethodId} {below : List Frame} {meth : Method} {c : Code} {D : va_G} {K : Nat → ClassId} {b L : Nat} {xs : Nat → Int32} {Q : State → Prop} (hx : p.tables.exec = Jvm.exec) (hb : c.code = code) (hml : c.maxLocals = 4) (hown : s.vm.findClass RLaw = some m.cls) (hts : ∀ w ∈ lw0 :: hwG, w.before #[Value.ref b] s = true) (hX0 : va_X b L xs s s.heap) (hbl : b < s.heap.size) (hK : va_K D vwCl (hwT K) s) (hO : hwO (hwT K) s) (hL : L ≤ 2048) {i k qa qm cl0 sl0 : Nat} {X : hwW} {H : Heap} {locs : List Loc} {ls : Array Slot} (hi : i + 3 < L) (hk : k ≤ 512) (hcc : cl0 + 10 ≤ 659988) (hss : sl0 + 1300 ≤ 7122284) (hZ : hwZ D vwCl (fun q : Nat => s.heap.size ≤ q) s.heap X H locs) (hl : lv_has ls 4 [(3, .int (nI i)), (2, .ref qm), (1, .ref qa), (0, .ref b)]) (hI : lwI K X qa qm k) (kk : ∀ (Y : hwW) (H1 : Heap) (locs1 : List Loc), hwZ D vwCl (fun q : Nat => s.heap.size ≤ q) s.heap Y H1 locs1 → lwI K Y qa qm (k + 1) → W p l e room_1 s m #[Value.ref b] below meth c H1 locs1 (cl0 + 10) (sl0 + 1300) Q (F0 m 509 ls [])) : W p l e room_1 s m #[Value.ref b] below meth c H locs cl0 sl0 Q (F0 m 117 ls []) := by
  obtain ⟨its, fs, lg, qw, qo, qs, ss, hs, sg, st, sd, f0, f1, hR⟩ := hI
  have ok := hR.okS (by omega)
  have okm := hR.okM (by omega)
  have hA : ∀ q : Nat, s.heap.size ≤ q → (fun q : Nat => s.heap.size ≤ q) q := fun _ h => h
  have hbA : ¬ (fun q : Nat => s.heap.size ≤ q) b := Nat.not_le.mpr hbl
  have hR2 := hR.field (xs (i + 1)) (xs (i + 2)) (xs (i + 3))
  have hn30 := hR2.n30
  refine lv_aload_n hx hb dLaw_law_117 rfl (lv_at hl 2 rfl) ?_
  refine lv_aload_n hx hb dLaw_law_118 rfl (lv_at hl 3 rfl) ?_
  refine lv_iload_n hx hb dLaw_law_119 rfl (lv_at hl 0 rfl) ?_
  refine lv_iconst (v := nI 1) hx hb dLaw_law_120 (by decide) ?_
  refine lv_iadd hx hb dLaw_law_121 ?_
  refine hw_topi (nI_add i 1) ?_
  refine va_sld hx hb hX0 hbl hbA hZ.2.2 (vp_in_nI (show i + 1 < L by omega) (by omega)) dLaw_law_122 ?_
  refine hw_topi (congrArg xs (nI_clamp (show i + 1 < 2 ^ 31 by omega))) ?_
  refine lv_aload_n hx hb dLaw_law_123 rfl (lv_at hl 3 rfl) ?_
  refine lv_iload_n hx hb dLaw_law_124 rfl (lv_at hl 0 rfl) ?_
  refine lv_iconst (v := nI 2) hx hb dLaw_law_125 (by decide) ?_
  refine lv_iadd hx hb dLaw_law_126 ?_
  refine hw_topi (nI_add i 2) ?_
  refine va_sld hx hb hX0 hbl hbA hZ.2.2 (vp_in_nI (show i + 2 < L by omega) (by omega)) dLaw_law_127 ?_
  refine hw_topi (congrArg xs (nI_clamp (show i + 2 < 2 ^ 31 by omega))) ?_
  refine lv_aload_n hx hb dLaw_law_128 rfl (lv_at hl 3 rfl) ?_
  refine lv_iload_n hx hb dLaw_law_129 rfl (lv_at hl 0 rfl) ?_
  refine lv_iconst (v := nI 3) hx hb dLaw_law_130 (by decide) ?_
  refine lv_iadd hx hb dLaw_law_131 ?_
  refine hw_topi (nI_add i 3) ?_
  refine va_sld hx hb hX0 hbl hbA hZ.2.2 (vp_in_nI (show i + 3 < L by omega) (by omega)) dLaw_law_132 ?_
  refine hw_topi (congrArg xs (nI_clamp (show i + 3 < 2 ^ 31 by omega))) ?_
  refine hw_callv (va_runV (As := [.int (xs (i + 1)), .int (xs (i + 2)), .int (xs (i + 3))]) (rest := []) ⟨hx, hb, hml, hown, hts⟩ (p_field l D K X H.size qa its fs lg qw qo qs ss hs (xs (i + 1)) (xs (i + 2)) (xs (i + 3)) f0 ok) (cwV 3 hts (hwGood (hw_4 mm_497 mm_498 mm_499 mm_188 (hwAll mm_496))) rfl rfl rfl (by decide +kernel) ⟨Nat.le_of_ble_eq_true rfl, Nat.le_of_ble_eq_true rfl⟩) (hw_preV hK hO hZ (ixAt.ob f0) rfl) rfl rfl hl.1 rfl (lv_room (Nat.le_of_ble_eq_true rfl)) dLaw_law_133 ⟨(show cl0 + 1 ≤ 659988 by omega), (show sl0 + 1300 ≤ 7122284 by omega)⟩) hZ hA (fun X1 H1 lc1 hp hZ => ?_)
  obtain ⟨hF, hN⟩ := hp
  have f1 := moAt.fr hF (fun M hM hM2 hNS => by ((try dsimp only at hNS); omega)) f1
  have f0 := hN
  refine lv_aload_n hx hb dLaw_law_136 rfl (lv_at hl 1 rfl) ?_
  refine lv_aload_n hx hb dLaw_law_137 rfl (lv_at hl 3 rfl) ?_
  refine lv_iload_n hx hb dLaw_law_138 rfl (lv_at hl 0 rfl) ?_
  refine lv_iconst (v := nI 1) hx hb dLaw_law_139 (by decide) ?_
  refine lv_iadd hx hb dLaw_law_140 ?_
  refine hw_topi (nI_add i 1) ?_
  refine va_sld hx hb hX0 hbl hbA hZ.2.2 (vp_in_nI (show i + 1 < L by omega) (by omega)) dLaw_law_141 ?_
  refine hw_topi (congrArg xs (nI_clamp (show i + 1 < 2 ^ 31 by omega))) ?_
  refine lv_aload_n hx hb dLaw_law_142 rfl (lv_at hl 3 rfl) ?_
  refine lv_iload_n hx hb dLaw_law_143 rfl (lv_at hl 0 rfl) ?_
  refine lv_iconst (v := nI 2) hx hb dLaw_law_144 (by decide) ?_
  refine lv_iadd hx hb dLaw_law_145 ?_
  refine hw_topi (nI_add i 2) ?_
  refine va_sld hx hb hX0 hbl hbA hZ.2.2 (vp_in_nI (show i + 2 < L by omega) (by omega)) dLaw_law_146 ?_
  refine hw_topi (congrArg xs (nI_clamp (show i + 2 < 2 ^ 31 by omega))) ?_
  refine lv_aload_n hx hb dLaw_law_147 rfl (lv_at hl 3 rfl) ?_
  refine lv_iload_n hx hb dLaw_law_148 rfl (lv_at hl 0 rfl) ?_
  refine lv_iconst (v := nI 3) hx hb dLaw_law_149 (by decide) ?_
  refine lv_iadd hx hb dLaw_law_150 ?_
  refine hw_topi (nI_add i 3) ?_
  refine va_sld hx hb hX0 hbl hbA hZ.2.2 (vp_in_nI (show i + 3 < L by omega) (by omega)) dLaw_law_151 ?_
  refine hw_topi (congrArg xs (nI_clamp (show i + 3 < 2 ^ 31 by omega))) ?_
  refine hw_callv (va_runV (As := [.int (xs (i + 1)), .int (xs (i + 2)), .int (xs (i + 3))]) (rest := []) ⟨hx, hb, hml, hown, hts⟩ (q_field l D K X1 H1.size qm its sg lg st sd hs (xs (i + 1)) (xs (i + 2)) (xs (i + 3)) f1 okm) (cwV 3 hts (hwGood (hw_4 mm_501 mm_502 mm_503 mm_365 (hwAll mm_500))) rfl rfl rfl (by decide +kernel) ⟨Nat.le_of_ble_eq_true rfl, Nat.le_of_ble_eq_true rfl⟩) (hw_preV hK hO hZ (moAt.ob f1) rfl) rfl rfl hl.1 rfl (lv_room (Nat.le_of_ble_eq_true rfl)) dLaw_law_152 ⟨(show (cl0 + 1) + 0 ≤ 659988 by omega), (show (sl0 + 1300) + 0 ≤ 7122284 by omega)⟩) hZ hA (fun X2 H2 lc2 hp hZ => ?_)
  obtain ⟨hF, hN⟩ := hp
  have f0 := ixAt.fr hF (fun M hM hNS => by ((try dsimp only at hNS); omega)) hn30 f0
  have f1 := hN
  rw [hR.sgf] at f1
  refine lv_goto (tgt := 509) hx hb dLaw_law_155 (by decide) ?_
  refine W.widen (k := cl0 + 10) (n := sl0 + 1300) (by omega) (by omega) ?_
  exact kk _ _ _ hZ ⟨_, _, _, _, _, _, _, _, _, _, _, f0, f1, hR2⟩
set_option maxHeartbeats 4000000 in
set_option maxRecDepth 100000 in
theorem law_c2 {p : Program} {l : Launch} {e : Env} {s : State} {m : MethodId} {below : List Frame} {meth : Method} {c : Code} {D : va_G} {K : Nat → ClassId} {b L : Nat} {xs : Nat → Int32} {Q : State → Prop} (hx : p.tables.exec = Jvm.exec) (hb : c.code = code) (hml : c.maxLocals = 4) (hown : s.vm.findClass RLaw = some m.cls) (hts : ∀ w ∈ lw0 :: hwG, w.before #[Value.ref b] s = true) (hX0 : va_X b L xs s s.heap) (hbl : b < s.heap.size) (hK : va_K D vwCl (hwT K) s) (hO : hwO (hwT K) s) (hL : L ≤ 2048) {i k qa qm cl0 sl0 : Nat} {X : hwW} {H : Heap} {locs : List Loc} {ls : Array Slot} (hi : i + 3 < L) (hk : k ≤ 512) (hcc : cl0 + 10 ≤ 659988) (hss : sl0 + 1300 ≤ 7122284) (hZ : hwZ D vwCl (fun q : Nat => s.heap.size ≤ q) s.heap X H locs) (hl : lv_has ls 4 [(3, .int (nI i)), (2, .ref qm), (1, .ref qa), (0, .ref b)]) (hI : lwI K X qa qm k) (kk : ∀ (Y : hwW) (H1 : Heap) (locs1 : List Loc), hwZ D vwCl (fun q : Nat => s.heap.size ≤ q) s.heap Y H1 locs1 → lwI K Y qa qm (k + 1) → W p l e room_1 s m #[Value.ref b] below meth c H1 locs1 (cl0 + 10) (sl0 + 1300) Q (F0 m 509 ls [])) : W p l e room_1 s m #[Value.ref b] below meth c H locs cl0 sl0 Q (F0 m 158 ls []) := by
  obtain ⟨its, fs, lg, qw, qo, qs, ss, hs, sg, st, sd, f0, f1, hR⟩ := hI
  have ok := hR.okS (by omega)
  have okm := hR.okM (by omega)
  have hA : ∀ q : Nat, s.heap.size ≤ q → (fun q : Nat => s.heap.size ≤ q) q := fun _ h => h
  have hbA : ¬ (fun q : Nat => s.heap.size ≤ q) b := Nat.not_le.mpr hbl
  have hR2 := hR.remove (xs (i + 1))
  have hn30 := hR2.n30
  refine lv_aload_n hx hb dLaw_law_158 rfl (lv_at hl 2 rfl) ?_
  refine lv_aload_n hx hb dLaw_law_159 rfl (lv_at hl 3 rfl) ?_
  refine lv_iload_n hx hb dLaw_law_160 rfl (lv_at hl 0 rfl) ?_
  refine lv_iconst (v := nI 1) hx hb dLaw_law_161 (by decide) ?_
  refine lv_iadd hx hb dLaw_law_162 ?_
  refine hw_topi (nI_add i 1) ?_
  refine va_sld hx hb hX0 hbl hbA hZ.2.2 (vp_in_nI (show i + 1 < L by omega) (by omega)) dLaw_law_163 ?_
  refine hw_topi (congrArg xs (nI_clamp (show i + 1 < 2 ^ 31 by omega))) ?_
  refine hw_calli (va_runV (As := [.int (xs (i + 1))]) (rest := []) ⟨hx, hb, hml, hown, hts⟩ (p_remove l D K X H.size qa its fs lg qw qo qs ss hs (xs (i + 1)) f0 ok) (cwV 1 hts (hwGood (hw_4 mm_505 mm_506 mm_507 mm_188 (hwAll mm_504))) rfl rfl rfl (by decide +kernel) ⟨Nat.le_of_ble_eq_true rfl, Nat.le_of_ble_eq_true rfl⟩) (hw_preV hK hO hZ (ixAt.ob f0) rfl) rfl rfl hl.1 rfl (lv_room (Nat.le_of_ble_eq_true rfl)) dLaw_law_164 ⟨(show cl0 + 0 ≤ 659988 by omega), (show sl0 + 0 ≤ 7122284 by omega)⟩) hZ hA (fun r1 X1 H1 lc1 hp hZ => ?_)
  obtain ⟨hr1, hF, hN⟩ := hp
  have f1 := moAt.fr hF (fun M hM hM2 hNS => by ((try dsimp only at hNS); omega)) f1
  have f0 := hN
  refine lv_aload_n hx hb dLaw_law_167 rfl (lv_at hl 1 rfl) ?_
  refine lv_aload_n hx hb dLaw_law_168 rfl (lv_at hl 3 rfl) ?_
  refine lv_iload_n hx hb dLaw_law_169 rfl (lv_at hl 0 rfl) ?_
  refine lv_iconst (v := nI 1) hx hb dLaw_law_170 (by decide) ?_
  refine lv_iadd hx hb dLaw_law_171 ?_
  refine hw_topi (nI_add i 1) ?_
  refine va_sld hx hb hX0 hbl hbA hZ.2.2 (vp_in_nI (show i + 1 < L by omega) (by omega)) dLaw_law_172 ?_
  refine hw_topi (congrArg xs (nI_clamp (show i + 1 < 2 ^ 31 by omega))) ?_
  refine hw_calli (va_runV (As := [.int (xs (i + 1))]) (rest := [.int r1]) ⟨hx, hb, hml, hown, hts⟩ (q_remove l D K X1 H1.size qm its sg lg st sd hs (xs (i + 1)) f1 okm) (cwV 1 hts (hwGood (hw_4 mm_509 mm_510 mm_511 mm_365 (hwAll mm_508))) rfl rfl rfl (by decide +kernel) ⟨Nat.le_of_ble_eq_true rfl, Nat.le_of_ble_eq_true rfl⟩) (hw_preV hK hO hZ (moAt.ob f1) rfl) rfl rfl hl.1 rfl (lv_room (Nat.le_of_ble_eq_true rfl)) dLaw_law_173 ⟨(show (cl0 + 0) + 0 ≤ 659988 by omega), (show (sl0 + 0) + 0 ≤ 7122284 by omega)⟩) hZ hA (fun r2 X2 H2 lc2 hp hZ => ?_)
  obtain ⟨hr2, hF, hN⟩ := hp
  have f0 := ixAt.fr hF (fun M hM hNS => by ((try dsimp only at hNS); omega)) hn30 f0
  have f1 := hN
  refine lv_icmp_eq (tgt := 509) hx hb dLaw_law_176 (by decide) (fun _ => ?_) (fun c9 => absurd (hr1.trans hr2.symm) c9)
  refine W.widen (k := cl0 + 10) (n := sl0 + 1300) (by omega) (by omega) ?_
  exact kk _ _ _ hZ ⟨_, _, _, _, _, _, _, _, _, _, _, f0, f1, hR2⟩
set_option maxHeartbeats 4000000 in
set_option maxRecDepth 100000 in
theorem law_c3 {p : Program} {l : Launch} {e : Env} {s : State} {m : MethodId} {below : List Frame} {meth : Method} {c : Code} {D : va_G} {K : Nat → ClassId} {b L : Nat} {xs : Nat → Int32} {Q : State → Prop} (hx : p.tables.exec = Jvm.exec) (hb : c.code = code) (hml : c.maxLocals = 4) (hown : s.vm.findClass RLaw = some m.cls) (hts : ∀ w ∈ lw0 :: hwG, w.before #[Value.ref b] s = true) (hX0 : va_X b L xs s s.heap) (hbl : b < s.heap.size) (hK : va_K D vwCl (hwT K) s) (hO : hwO (hwT K) s) (hL : L ≤ 2048) {i k qa qm cl0 sl0 : Nat} {X : hwW} {H : Heap} {locs : List Loc} {ls : Array Slot} (hi : i + 3 < L) (hk : k ≤ 512) (hcc : cl0 + 10 ≤ 659988) (hss : sl0 + 1300 ≤ 7122284) (hZ : hwZ D vwCl (fun q : Nat => s.heap.size ≤ q) s.heap X H locs) (hl : lv_has ls 4 [(3, .int (nI i)), (2, .ref qm), (1, .ref qa), (0, .ref b)]) (hI : lwI K X qa qm k) (kk : ∀ (Y : hwW) (H1 : Heap) (locs1 : List Loc), hwZ D vwCl (fun q : Nat => s.heap.size ≤ q) s.heap Y H1 locs1 → lwI K Y qa qm (k + 1) → W p l e room_1 s m #[Value.ref b] below meth c H1 locs1 (cl0 + 10) (sl0 + 1300) Q (F0 m 509 ls [])) : W p l e room_1 s m #[Value.ref b] below meth c H locs cl0 sl0 Q (F0 m 181 ls []) := by
  obtain ⟨its, fs, lg, qw, qo, qs, ss, hs, sg, st, sd, f0, f1, hR⟩ := hI
  have ok := hR.okS (by omega)
  have okm := hR.okM (by omega)
  have hA : ∀ q : Nat, s.heap.size ≤ q → (fun q : Nat => s.heap.size ≤ q) q := fun _ h => h
  have hbA : ¬ (fun q : Nat => s.heap.size ≤ q) b := Nat.not_le.mpr hbl
  have hR2 := hR.sign (xs (i + 1))
  have hn30 := hR2.n30
  refine lv_aload_n hx hb dLaw_law_181 rfl (lv_at hl 2 rfl) ?_
  refine lv_aload_n hx hb dLaw_law_182 rfl (lv_at hl 3 rfl) ?_
  refine lv_iload_n hx hb dLaw_law_183 rfl (lv_at hl 0 rfl) ?_
  refine lv_iconst (v := nI 1) hx hb dLaw_law_184 (by decide) ?_
  refine lv_iadd hx hb dLaw_law_185 ?_
  refine hw_topi (nI_add i 1) ?_
  refine va_sld hx hb hX0 hbl hbA hZ.2.2 (vp_in_nI (show i + 1 < L by omega) (by omega)) dLaw_law_186 ?_
  refine hw_topi (congrArg xs (nI_clamp (show i + 1 < 2 ^ 31 by omega))) ?_
  refine hw_callv (va_runV (As := [.int (xs (i + 1))]) (rest := []) ⟨hx, hb, hml, hown, hts⟩ (p_sign l D K X H.size qa its fs lg qw qo qs ss hs (xs (i + 1)) f0 ok) (cwV 1 hts (hwGood (hw_4 mm_513 mm_514 mm_515 mm_188 (hwAll mm_512))) rfl rfl rfl (by decide +kernel) ⟨Nat.le_of_ble_eq_true rfl, Nat.le_of_ble_eq_true rfl⟩) (hw_preV hK hO hZ (ixAt.ob f0) rfl) rfl rfl hl.1 rfl (lv_room (Nat.le_of_ble_eq_true rfl)) dLaw_law_187 ⟨(show cl0 + 1 ≤ 659988 by omega), (show sl0 + 1300 ≤ 7122284 by omega)⟩) hZ hA (fun X1 H1 lc1 hp hZ => ?_)
  obtain ⟨hF, hN⟩ := hp
  have f1 := moAt.fr hF (fun M hM hM2 hNS => by ((try dsimp only at hNS); omega)) f1
  have f0 := hN
  refine lv_aload_n hx hb dLaw_law_190 rfl (lv_at hl 1 rfl) ?_
  refine lv_aload_n hx hb dLaw_law_191 rfl (lv_at hl 3 rfl) ?_
  refine lv_iload_n hx hb dLaw_law_192 rfl (lv_at hl 0 rfl) ?_
  refine lv_iconst (v := nI 1) hx hb dLaw_law_193 (by decide) ?_
  refine lv_iadd hx hb dLaw_law_194 ?_
  refine hw_topi (nI_add i 1) ?_
  refine va_sld hx hb hX0 hbl hbA hZ.2.2 (vp_in_nI (show i + 1 < L by omega) (by omega)) dLaw_law_195 ?_
  refine hw_topi (congrArg xs (nI_clamp (show i + 1 < 2 ^ 31 by omega))) ?_
  refine hw_callv (va_runV (As := [.int (xs (i + 1))]) (rest := []) ⟨hx, hb, hml, hown, hts⟩ (q_sign l D K X1 H1.size qm its sg lg st sd hs (xs (i + 1)) f1 okm) (cwV 1 hts (hwGood (hw_4 mm_517 mm_518 mm_519 mm_365 (hwAll mm_516))) rfl rfl rfl (by decide +kernel) ⟨Nat.le_of_ble_eq_true rfl, Nat.le_of_ble_eq_true rfl⟩) (hw_preV hK hO hZ (moAt.ob f1) rfl) rfl rfl hl.1 rfl (lv_room (Nat.le_of_ble_eq_true rfl)) dLaw_law_196 ⟨(show (cl0 + 1) + 0 ≤ 659988 by omega), (show (sl0 + 1300) + 0 ≤ 7122284 by omega)⟩) hZ hA (fun X2 H2 lc2 hp hZ => ?_)
  obtain ⟨hF, hN⟩ := hp
  have f0 := ixAt.fr hF (fun M hM hNS => by ((try dsimp only at hNS); omega)) hn30 f0
  have f1 := hN
  refine lv_goto (tgt := 509) hx hb dLaw_law_199 (by decide) ?_
  refine W.widen (k := cl0 + 10) (n := sl0 + 1300) (by omega) (by omega) ?_
  exact kk _ _ _ hZ ⟨_, _, _, _, _, _, _, _, _, _, _, f0, f1, hR2⟩

/-! the cases of the law -/
section TC
variable {α : Type} {G : tt_G} {κ : tt_X α} {T : α} {st : tt_St} {b L i k : Nat} {xs : Nat → Int32}
theorem lw_k0 (hC : tt_Cx G κ code "TideTableLaw" 4 14 538) (hX : lw_X G (tt_xs κ) b L xs) (hL : L ≤ 3072) (hi : i + 6 ≤ L) (hk : k < 2147483647) (hr : rl k st st) (hg : ∀ st' : tt_St, rl (k + 1) st' st' → tt_V G κ T st' 1185 (lw_lv G b i) []) : tt_V G κ T st 168 (lw_lv G b i) [] := by
  have A1 := c_tb_letter G st (xs (i + 1)) hr.1
  obtain ⟨e, h1, h2⟩ := lw_letter hr hk (xs (i + 1))
  have A2 := c_mo_letter G (tb_letter st (xs (i + 1))).2 (xs (i + 1)) h1.2.1.2.2.1
  generalize tb_letter st (xs (i + 1)) = u1 at A1 A2 e h1 h2
  generalize mo_letter u1.2 (xs (i + 1)) = u2 at A2 e h2
  refine r_aload_n 2 hC d_law_168 rfl ?_
  refine r_arg 1 hC hX hL hi (by decide) rfl d_law_169 d_law_170 d_law_171 d_law_172 d_law_173 ?_
  refine r_callV (o := 0) (rest := []) (stk1 := [.int u1.1]) hC d_law_174 A1 mw_tb_letter mi_tb_letter mz_tb_letter ml_lw_13 rfl rfl rfl rfl rfl (Nat.le_of_ble_eq_true rfl) rfl ?_
  refine r_aload_n 3 hC d_law_177 rfl ?_
  refine r_arg 1 hC hX hL hi (by decide) rfl d_law_178 d_law_179 d_law_180 d_law_181 d_law_182 ?_
  refine r_callV (o := 49) (rest := [.int u1.1]) (stk1 := [.int u2.1, .int u1.1]) hC d_law_183 A2 mw_mo_letter mi_mo_letter mz_mo_letter ml_lw_17 rfl rfl rfl rfl rfl (Nat.le_of_ble_eq_true rfl) rfl ?_
  exact t_icmp_eq (tgt := 1185) hC d_law_186 (by decide) e (hg _ h2)
theorem lw_k1 (hC : tt_Cx G κ code "TideTableLaw" 4 14 538) (hX : lw_X G (tt_xs κ) b L xs) (hL : L ≤ 3072) (hi : i + 6 ≤ L) (hk : k < 2147483647) (hr : rl k st st) (hg : ∀ st' : tt_St, rl (k + 1) st' st' → tt_V G κ T st' 1185 (lw_lv G b i) []) : tt_V G κ T st 191 (lw_lv G b i) [] := by
  have A1 := c_tb_blank G st
  obtain ⟨e, h1, h2⟩ := lw_blank hr hk
  have A2 := c_mo_blank G (tb_blank st).2
  generalize tb_blank st = u1 at A1 A2 e h1 h2
  generalize mo_blank u1.2 = u2 at A2 e h2
  refine r_aload_n 2 hC d_law_191 rfl ?_
  refine r_callV (o := 0) (rest := []) (stk1 := [.int u1.1]) hC d_law_192 A1 mw_tb_blank mi_tb_blank mz_tb_blank ml_lw_18 rfl rfl rfl rfl rfl (Nat.le_of_ble_eq_true rfl) rfl ?_
  refine r_aload_n 3 hC d_law_195 rfl ?_
  refine r_callV (o := 49) (rest := [.int u1.1]) (stk1 := [.int u2.1, .int u1.1]) hC d_law_196 A2 mw_mo_blank mi_mo_blank mz_mo_blank ml_lw_22 rfl rfl rfl rfl rfl (Nat.le_of_ble_eq_true rfl) rfl ?_
  exact t_icmp_eq (tgt := 1185) hC d_law_199 (by decide) e (hg _ h2)
theorem lw_k2 (hC : tt_Cx G κ code "TideTableLaw" 4 14 538) (hX : lw_X G (tt_xs κ) b L xs) (hL : L ≤ 3072) (hi : i + 6 ≤ L) (hk : k < 2147483647) (hr : rl k st st) (hg : ∀ st' : tt_St, rl (k + 1) st' st' → tt_V G κ T st' 1185 (lw_lv G b i) []) : tt_V G κ T st 204 (lw_lv G b i) [] := by
  have A1 := c_tb_fault G st hr.1
  obtain ⟨e, h1, h2⟩ := lw_fault hr hk
  have A2 := c_mo_fault G (tb_fault st).2 h1.2.1.2.2.1
  generalize tb_fault st = u1 at A1 A2 e h1 h2
  generalize mo_fault u1.2 = u2 at A2 e h2
  refine r_aload_n 2 hC d_law_204 rfl ?_
  refine r_callV (o := 0) (rest := []) (stk1 := [.int u1.1]) hC d_law_205 A1 mw_tb_fault mi_tb_fault mz_tb_fault ml_lw_23 rfl rfl rfl rfl rfl (Nat.le_of_ble_eq_true rfl) rfl ?_
  refine r_aload_n 3 hC d_law_208 rfl ?_
  refine r_callV (o := 49) (rest := [.int u1.1]) (stk1 := [.int u2.1, .int u1.1]) hC d_law_209 A2 mw_mo_fault mi_mo_fault mz_mo_fault ml_lw_26 rfl rfl rfl rfl rfl (Nat.le_of_ble_eq_true rfl) rfl ?_
  exact t_icmp_eq (tgt := 1185) hC d_law_212 (by decide) e (hg _ h2)
theorem lw_k3 (hC : tt_Cx G κ code "TideTableLaw" 4 14 538) (hX : lw_X G (tt_xs κ) b L xs) (hL : L ≤ 3072) (hi : i + 6 ≤ L) (hk : k < 2147483647) (hr : rl k st st) (hg : ∀ st' : tt_St, rl (k + 1) st' st' → tt_V G κ T st' 1185 (lw_lv G b i) []) : tt_V G κ T st 217 (lw_lv G b i) [] := by
  have A1 := c_tb_ports G st hr.1
  obtain ⟨e, h1, h2⟩ := lw_ports hr hk
  have A2 := c_mo_ports G (tb_ports st).2 h1.2.1.2.2.1
  generalize tb_ports st = u1 at A1 A2 e h1 h2
  generalize mo_ports u1.2 = u2 at A2 e h2
  refine r_aload_n 2 hC d_law_217 rfl ?_
  refine r_callV (o := 0) (rest := []) (stk1 := [.int u1.1]) hC d_law_218 A1 mw_tb_ports mi_tb_ports mz_tb_ports ml_lw_27 rfl rfl rfl rfl rfl (Nat.le_of_ble_eq_true rfl) rfl ?_
  refine r_aload_n 3 hC d_law_221 rfl ?_
  refine r_callV (o := 49) (rest := [.int u1.1]) (stk1 := [.int u2.1, .int u1.1]) hC d_law_222 A2 mw_mo_ports mi_mo_ports mz_mo_ports ml_lw_30 rfl rfl rfl rfl rfl (Nat.le_of_ble_eq_true rfl) rfl ?_
  exact t_icmp_eq (tgt := 1185) hC d_law_225 (by decide) e (hg _ h2)
theorem lw_k4 (hC : tt_Cx G κ code "TideTableLaw" 4 14 538) (hX : lw_X G (tt_xs κ) b L xs) (hL : L ≤ 3072) (hi : i + 6 ≤ L) (hk : k < 2147483647) (hr : rl k st st) (hg : ∀ st' : tt_St, rl (k + 1) st' st' → tt_V G κ T st' 1185 (lw_lv G b i) []) : tt_V G κ T st 230 (lw_lv G b i) [] := by
  have A1 := c_tb_port G st (xs (i + 1)) (xs (i + 2)) hr.1
  obtain ⟨e, h2⟩ := lw_port hr hk (xs (i + 1)) (xs (i + 2))
  have A2 := c_mo_port G st (xs (i + 1)) (xs (i + 2)) hr.2.1
  generalize tb_port st (xs (i + 1)) (xs (i + 2)) = u1 at A1 e
  generalize mo_port st (xs (i + 1)) (xs (i + 2)) = u2 at A2 e
  refine r_aload_n 2 hC d_law_230 rfl ?_
  refine r_arg 1 hC hX hL hi (by decide) rfl d_law_231 d_law_232 d_law_233 d_law_234 d_law_235 ?_
  refine r_arg 2 hC hX hL hi (by decide) rfl d_law_236 d_law_237 d_law_238 d_law_239 d_law_240 ?_
  refine r_callV (o := 0) (rest := []) (stk1 := [.int u1]) hC d_law_241 A1 mw_tb_port mi_tb_port mz_tb_port ml_lw_31 rfl rfl rfl rfl rfl (Nat.le_of_ble_eq_true rfl) rfl ?_
  refine r_aload_n 3 hC d_law_244 rfl ?_
  refine r_arg 1 hC hX hL hi (by decide) rfl d_law_245 d_law_246 d_law_247 d_law_248 d_law_249 ?_
  refine r_arg 2 hC hX hL hi (by decide) rfl d_law_250 d_law_251 d_law_252 d_law_253 d_law_254 ?_
  refine r_callV (o := 49) (rest := [.int u1]) (stk1 := [.int u2, .int u1]) hC d_law_255 A2 mw_mo_port mi_mo_port mz_mo_port ml_lw_35 rfl rfl rfl rfl rfl (Nat.le_of_ble_eq_true rfl) rfl ?_
  exact t_icmp_eq (tgt := 1185) hC d_law_258 (by decide) e (hg _ h2)
theorem lw_k5 (hC : tt_Cx G κ code "TideTableLaw" 4 14 538) (hX : lw_X G (tt_xs κ) b L xs) (hL : L ≤ 3072) (hi : i + 6 ≤ L) (hk : k < 2147483647) (hr : rl k st st) (hg : ∀ st' : tt_St, rl (k + 1) st' st' → tt_V G κ T st' 1185 (lw_lv G b i) []) : tt_V G κ T st 263 (lw_lv G b i) [] := by
  have A1 := c_tb_wave G st (xs (i + 1)) (xs (i + 2)) (xs (i + 3)) hr.1
  obtain ⟨e, h2⟩ := lw_wave hr hk (xs (i + 1)) (xs (i + 2)) (xs (i + 3))
  have A2 := c_mo_wave G st (xs (i + 1)) (xs (i + 2)) (xs (i + 3)) hr.2.1
  generalize tb_wave st (xs (i + 1)) (xs (i + 2)) (xs (i + 3)) = u1 at A1 e
  generalize mo_wave st (xs (i + 1)) (xs (i + 2)) (xs (i + 3)) = u2 at A2 e
  refine r_aload_n 2 hC d_law_263 rfl ?_
  refine r_arg 1 hC hX hL hi (by decide) rfl d_law_264 d_law_265 d_law_266 d_law_267 d_law_268 ?_
  refine r_arg 2 hC hX hL hi (by decide) rfl d_law_269 d_law_270 d_law_271 d_law_272 d_law_273 ?_
  refine r_arg 3 hC hX hL hi (by decide) rfl d_law_274 d_law_275 d_law_276 d_law_277 d_law_278 ?_
  refine r_callV (o := 0) (rest := []) (stk1 := [.int u1]) hC d_law_279 A1 mw_tb_wave mi_tb_wave mz_tb_wave ml_lw_36 rfl rfl rfl rfl rfl (Nat.le_of_ble_eq_true rfl) rfl ?_
  refine r_aload_n 3 hC d_law_282 rfl ?_
  refine r_arg 1 hC hX hL hi (by decide) rfl d_law_283 d_law_284 d_law_285 d_law_286 d_law_287 ?_
  refine r_arg 2 hC hX hL hi (by decide) rfl d_law_288 d_law_289 d_law_290 d_law_291 d_law_292 ?_
  refine r_arg 3 hC hX hL hi (by decide) rfl d_law_293 d_law_294 d_law_295 d_law_296 d_law_297 ?_
  refine r_callV (o := 49) (rest := [.int u1]) (stk1 := [.int u2, .int u1]) hC d_law_298 A2 mw_mo_wave mi_mo_wave mz_mo_wave ml_lw_40 rfl rfl rfl rfl rfl (Nat.le_of_ble_eq_true rfl) rfl ?_
  exact t_icmp_eq (tgt := 1185) hC d_law_301 (by decide) e (hg _ h2)
theorem lw_k6 (hC : tt_Cx G κ code "TideTableLaw" 4 14 538) (hX : lw_X G (tt_xs κ) b L xs) (hL : L ≤ 3072) (hi : i + 6 ≤ L) (hk : k < 2147483647) (hr : rl k st st) (hg : ∀ st' : tt_St, rl (k + 1) st' st' → tt_V G κ T st' 1185 (lw_lv G b i) []) : tt_V G κ T st 306 (lw_lv G b i) [] := by
  have A1 := c_tb_as G st (xs (i + 1)) (xs (i + 2)) hr.1
  obtain ⟨e, h2⟩ := lw_as hr hk (xs (i + 1)) (xs (i + 2))
  have A2 := c_mo_as G st (xs (i + 1)) (xs (i + 2)) hr.2.1
  generalize tb_as st (xs (i + 1)) (xs (i + 2)) = u1 at A1 e
  generalize mo_as st (xs (i + 1)) (xs (i + 2)) = u2 at A2 e
  refine r_aload_n 2 hC d_law_306 rfl ?_
  refine r_arg 1 hC hX hL hi (by decide) rfl d_law_307 d_law_308 d_law_309 d_law_310 d_law_311 ?_
  refine r_arg 2 hC hX hL hi (by decide) rfl d_law_312 d_law_313 d_law_314 d_law_315 d_law_316 ?_
  refine r_callV (o := 0) (rest := []) (stk1 := [.int u1]) hC d_law_317 A1 mw_tb_as mi_tb_as mz_tb_as ml_lw_41 rfl rfl rfl rfl rfl (Nat.le_of_ble_eq_true rfl) rfl ?_
  refine r_aload_n 3 hC d_law_320 rfl ?_
  refine r_arg 1 hC hX hL hi (by decide) rfl d_law_321 d_law_322 d_law_323 d_law_324 d_law_325 ?_
  refine r_arg 2 hC hX hL hi (by decide) rfl d_law_326 d_law_327 d_law_328 d_law_329 d_law_330 ?_
  refine r_callV (o := 49) (rest := [.int u1]) (stk1 := [.int u2, .int u1]) hC d_law_331 A2 mw_mo_as mi_mo_as mz_mo_as ml_lw_44 rfl rfl rfl rfl rfl (Nat.le_of_ble_eq_true rfl) rfl ?_
  exact t_icmp_eq (tgt := 1185) hC d_law_334 (by decide) e (hg _ h2)
theorem lw_k7 (hC : tt_Cx G κ code "TideTableLaw" 4 14 538) (hX : lw_X G (tt_xs κ) b L xs) (hL : L ≤ 3072) (hi : i + 6 ≤ L) (hk : k < 2147483647) (hr : rl k st st) (hg : ∀ st' : tt_St, rl (k + 1) st' st' → tt_V G κ T st' 1185 (lw_lv G b i) []) : tt_V G κ T st 339 (lw_lv G b i) [] := by
  have A1 := c_tb_round G st (xs (i + 1))
  obtain ⟨e, h2⟩ := lw_round hr hk (xs (i + 1))
  have A2 := c_mo_round G st (xs (i + 1))
  generalize tb_round (xs (i + 1)) = u1 at A1 e
  generalize mo_round st (xs (i + 1)) = u2 at A2 e
  refine r_aload_n 2 hC d_law_339 rfl ?_
  refine r_arg 1 hC hX hL hi (by decide) rfl d_law_340 d_law_341 d_law_342 d_law_343 d_law_344 ?_
  refine r_callV (o := 0) (rest := []) (stk1 := [.int u1]) hC d_law_345 A1 mw_tb_round mi_tb_round mz_tb_round ml_lw_45 rfl rfl rfl rfl rfl (Nat.le_of_ble_eq_true rfl) rfl ?_
  refine r_aload_n 3 hC d_law_348 rfl ?_
  refine r_arg 1 hC hX hL hi (by decide) rfl d_law_349 d_law_350 d_law_351 d_law_352 d_law_353 ?_
  refine r_callV (o := 49) (rest := [.int u1]) (stk1 := [.int u2, .int u1]) hC d_law_354 A2 mw_mo_round mi_mo_round mz_mo_round ml_lw_48 rfl rfl rfl rfl rfl (Nat.le_of_ble_eq_true rfl) rfl ?_
  exact t_icmp_eq (tgt := 1185) hC d_law_357 (by decide) e (hg _ h2)
theorem lw_k8 (hC : tt_Cx G κ code "TideTableLaw" 4 14 538) (hX : lw_X G (tt_xs κ) b L xs) (hL : L ≤ 3072) (hi : i + 6 ≤ L) (hk : k < 2147483647) (hr : rl k st st) (hg : ∀ st' : tt_St, rl (k + 1) st' st' → tt_V G κ T st' 1185 (lw_lv G b i) []) : tt_V G κ T st 362 (lw_lv G b i) [] := by
  have A1 := c_tb_sum G st (xs (i + 1)) (xs (i + 2)) hr.1
  obtain ⟨e, h2⟩ := lw_sum hr hk (xs (i + 1)) (xs (i + 2))
  have A2 := c_mo_sum G st (xs (i + 1)) (xs (i + 2)) hr.2.1
  generalize tb_sum st (xs (i + 1)) (xs (i + 2)) = u1 at A1 e
  generalize mo_sum st (xs (i + 1)) (xs (i + 2)) = u2 at A2 e
  refine r_aload_n 2 hC d_law_362 rfl ?_
  refine r_arg 1 hC hX hL hi (by decide) rfl d_law_363 d_law_364 d_law_365 d_law_366 d_law_367 ?_
  refine r_arg 2 hC hX hL hi (by decide) rfl d_law_368 d_law_369 d_law_370 d_law_371 d_law_372 ?_
  refine r_callV (o := 0) (rest := []) (stk1 := [.int u1]) hC d_law_373 A1 mw_tb_sum mi_tb_sum mz_tb_sum ml_lw_49 rfl rfl rfl rfl rfl (Nat.le_of_ble_eq_true rfl) rfl ?_
  refine r_aload_n 3 hC d_law_376 rfl ?_
  refine r_arg 1 hC hX hL hi (by decide) rfl d_law_377 d_law_378 d_law_379 d_law_380 d_law_381 ?_
  refine r_arg 2 hC hX hL hi (by decide) rfl d_law_382 d_law_383 d_law_384 d_law_385 d_law_386 ?_
  refine r_callV (o := 49) (rest := [.int u1]) (stk1 := [.int u2, .int u1]) hC d_law_387 A2 mw_mo_sum mi_mo_sum mz_mo_sum ml_lw_52 rfl rfl rfl rfl rfl (Nat.le_of_ble_eq_true rfl) rfl ?_
  exact t_icmp_eq (tgt := 1185) hC d_law_390 (by decide) e (hg _ h2)
theorem lw_k9 (hC : tt_Cx G κ code "TideTableLaw" 4 14 538) (hX : lw_X G (tt_xs κ) b L xs) (hL : L ≤ 3072) (hi : i + 6 ≤ L) (hk : k < 2147483647) (hr : rl k st st) (hg : ∀ st' : tt_St, rl (k + 1) st' st' → tt_V G κ T st' 1185 (lw_lv G b i) []) : tt_V G κ T st 395 (lw_lv G b i) [] := by
  have A1 := c_tb_height G st (xs (i + 1)) (xs (i + 2)) hr.1
  obtain ⟨e, h2⟩ := lw_height hr hk (xs (i + 1)) (xs (i + 2))
  have A2 := c_mo_height G st (xs (i + 1)) (xs (i + 2)) hr.2.1
  generalize tb_height st (xs (i + 1)) (xs (i + 2)) = u1 at A1 e
  generalize mo_height st (xs (i + 1)) (xs (i + 2)) = u2 at A2 e
  refine r_aload_n 2 hC d_law_395 rfl ?_
  refine r_arg 1 hC hX hL hi (by decide) rfl d_law_396 d_law_397 d_law_398 d_law_399 d_law_400 ?_
  refine r_arg 2 hC hX hL hi (by decide) rfl d_law_401 d_law_402 d_law_403 d_law_404 d_law_405 ?_
  refine r_callV (o := 0) (rest := []) (stk1 := [.int u1]) hC d_law_406 A1 mw_tb_height mi_tb_height mz_tb_height ml_lw_53 rfl rfl rfl rfl rfl (Nat.le_of_ble_eq_true rfl) rfl ?_
  refine r_aload_n 3 hC d_law_409 rfl ?_
  refine r_arg 1 hC hX hL hi (by decide) rfl d_law_410 d_law_411 d_law_412 d_law_413 d_law_414 ?_
  refine r_arg 2 hC hX hL hi (by decide) rfl d_law_415 d_law_416 d_law_417 d_law_418 d_law_419 ?_
  refine r_callV (o := 49) (rest := [.int u1]) (stk1 := [.int u2, .int u1]) hC d_law_420 A2 mw_mo_height mi_mo_height mz_mo_height ml_lw_56 rfl rfl rfl rfl rfl (Nat.le_of_ble_eq_true rfl) rfl ?_
  exact t_icmp_eq (tgt := 1185) hC d_law_423 (by decide) e (hg _ h2)
theorem lw_k10 (hC : tt_Cx G κ code "TideTableLaw" 4 14 538) (hX : lw_X G (tt_xs κ) b L xs) (hL : L ≤ 3072) (hi : i + 6 ≤ L) (hk : k < 2147483647) (hr : rl k st st) (hg : ∀ st' : tt_St, rl (k + 1) st' st' → tt_V G κ T st' 1185 (lw_lv G b i) []) : tt_V G κ T st 428 (lw_lv G b i) [] := by
  have A1 := c_tb_tide G st (xs (i + 1)) (xs (i + 2)) (xs (i + 3)) (xs (i + 4)) hr.1
  obtain ⟨e, h1, h2⟩ := lw_tide hr hk (xs (i + 1)) (xs (i + 2)) (xs (i + 3)) (xs (i + 4))
  have A2 := c_mo_tide G (tb_tide st (xs (i + 1)) (xs (i + 2)) (xs (i + 3)) (xs (i + 4))).2 (xs (i + 1)) (xs (i + 2)) (xs (i + 3)) (xs (i + 4)) h1.2.1
  generalize tb_tide st (xs (i + 1)) (xs (i + 2)) (xs (i + 3)) (xs (i + 4)) = u1 at A1 A2 e h1 h2
  generalize mo_tide u1.2 (xs (i + 1)) (xs (i + 2)) (xs (i + 3)) (xs (i + 4)) = u2 at A2 e
  refine r_aload_n 2 hC d_law_428 rfl ?_
  refine r_arg 1 hC hX hL hi (by decide) rfl d_law_429 d_law_430 d_law_431 d_law_432 d_law_433 ?_
  refine r_arg 2 hC hX hL hi (by decide) rfl d_law_434 d_law_435 d_law_436 d_law_437 d_law_438 ?_
  refine r_arg 3 hC hX hL hi (by decide) rfl d_law_439 d_law_440 d_law_441 d_law_442 d_law_443 ?_
  refine r_arg 4 hC hX hL hi (by decide) rfl d_law_444 d_law_445 d_law_446 d_law_447 d_law_448 ?_
  refine r_callV (o := 0) (rest := []) (stk1 := [.int u1.1]) hC d_law_449 A1 mw_tb_tide mi_tb_tide mz_tb_tide ml_lw_57 rfl rfl rfl rfl rfl (Nat.le_of_ble_eq_true rfl) rfl ?_
  refine r_aload_n 3 hC d_law_452 rfl ?_
  refine r_arg 1 hC hX hL hi (by decide) rfl d_law_453 d_law_454 d_law_455 d_law_456 d_law_457 ?_
  refine r_arg 2 hC hX hL hi (by decide) rfl d_law_458 d_law_459 d_law_460 d_law_461 d_law_462 ?_
  refine r_arg 3 hC hX hL hi (by decide) rfl d_law_463 d_law_464 d_law_465 d_law_466 d_law_467 ?_
  refine r_arg 4 hC hX hL hi (by decide) rfl d_law_468 d_law_469 d_law_470 d_law_471 d_law_472 ?_
  refine r_callV (o := 49) (rest := [.int u1.1]) (stk1 := [.int u2, .int u1.1]) hC d_law_473 A2 mw_mo_tide mi_mo_tide mz_mo_tide ml_lw_61 rfl rfl rfl rfl rfl (Nat.le_of_ble_eq_true rfl) rfl ?_
  exact t_icmp_eq (tgt := 1185) hC d_law_476 (by decide) e (hg _ h2)
theorem lw_k11 (hC : tt_Cx G κ code "TideTableLaw" 4 14 538) (hX : lw_X G (tt_xs κ) b L xs) (hL : L ≤ 3072) (hi : i + 6 ≤ L) (hk : k < 2147483647) (hr : rl k st st) (hg : ∀ st' : tt_St, rl (k + 1) st' st' → tt_V G κ T st' 1185 (lw_lv G b i) []) : tt_V G κ T st 481 (lw_lv G b i) [] := by
  have A1 := c_tb_gate G st (xs (i + 1)) (xs (i + 2)) (xs (i + 3)) (xs (i + 4)) (xs (i + 5)) hr.1
  obtain ⟨e, h1, h2⟩ := lw_gate hr hk (xs (i + 1)) (xs (i + 2)) (xs (i + 3)) (xs (i + 4)) (xs (i + 5))
  have A2 := c_mo_gate G (tb_gate st (xs (i + 1)) (xs (i + 2)) (xs (i + 3)) (xs (i + 4)) (xs (i + 5))).2 (xs (i + 1)) (xs (i + 2)) (xs (i + 3)) (xs (i + 4)) (xs (i + 5)) h1.2.1
  generalize tb_gate st (xs (i + 1)) (xs (i + 2)) (xs (i + 3)) (xs (i + 4)) (xs (i + 5)) = u1 at A1 A2 e h1 h2
  generalize mo_gate u1.2 (xs (i + 1)) (xs (i + 2)) (xs (i + 3)) (xs (i + 4)) (xs (i + 5)) = u2 at A2 e
  refine r_aload_n 2 hC d_law_481 rfl ?_
  refine r_arg 1 hC hX hL hi (by decide) rfl d_law_482 d_law_483 d_law_484 d_law_485 d_law_486 ?_
  refine r_arg 2 hC hX hL hi (by decide) rfl d_law_487 d_law_488 d_law_489 d_law_490 d_law_491 ?_
  refine r_arg 3 hC hX hL hi (by decide) rfl d_law_492 d_law_493 d_law_494 d_law_495 d_law_496 ?_
  refine r_arg 4 hC hX hL hi (by decide) rfl d_law_497 d_law_498 d_law_499 d_law_500 d_law_501 ?_
  refine r_arg 5 hC hX hL hi (by decide) rfl d_law_502 d_law_503 d_law_504 d_law_505 d_law_506 ?_
  refine r_callV (o := 0) (rest := []) (stk1 := [.int u1.1]) hC d_law_507 A1 mw_tb_gate mi_tb_gate mz_tb_gate ml_lw_62 rfl rfl rfl rfl rfl (Nat.le_of_ble_eq_true rfl) rfl ?_
  refine r_aload_n 3 hC d_law_510 rfl ?_
  refine r_arg 1 hC hX hL hi (by decide) rfl d_law_511 d_law_512 d_law_513 d_law_514 d_law_515 ?_
  refine r_arg 2 hC hX hL hi (by decide) rfl d_law_516 d_law_517 d_law_518 d_law_519 d_law_520 ?_
  refine r_arg 3 hC hX hL hi (by decide) rfl d_law_521 d_law_522 d_law_523 d_law_524 d_law_525 ?_
  refine r_arg 4 hC hX hL hi (by decide) rfl d_law_526 d_law_527 d_law_528 d_law_529 d_law_530 ?_
  refine r_arg 5 hC hX hL hi (by decide) rfl d_law_531 d_law_532 d_law_533 d_law_534 d_law_535 ?_
  refine r_callV (o := 49) (rest := [.int u1.1]) (stk1 := [.int u2, .int u1.1]) hC d_law_536 A2 mw_mo_gate mi_mo_gate mz_mo_gate ml_lw_66 rfl rfl rfl rfl rfl (Nat.le_of_ble_eq_true rfl) rfl ?_
  exact t_icmp_eq (tgt := 1185) hC d_law_539 (by decide) e (hg _ h2)
theorem lw_k12 (hC : tt_Cx G κ code "TideTableLaw" 4 14 538) (hX : lw_X G (tt_xs κ) b L xs) (hL : L ≤ 3072) (hi : i + 6 ≤ L) (hk : k < 2147483647) (hr : rl k st st) (hg : ∀ st' : tt_St, rl (k + 1) st' st' → tt_V G κ T st' 1185 (lw_lv G b i) []) : tt_V G κ T st 544 (lw_lv G b i) [] := by
  have A1 := c_tb_dry G st (xs (i + 1)) (xs (i + 2)) (xs (i + 3)) hr.1
  obtain ⟨e, h1, h2⟩ := lw_dry hr hk (xs (i + 1)) (xs (i + 2)) (xs (i + 3))
  have A2 := c_mo_dry G (tb_dry st (xs (i + 1)) (xs (i + 2)) (xs (i + 3))).2 (xs (i + 1)) (xs (i + 2)) (xs (i + 3)) h1.2.1
  generalize tb_dry st (xs (i + 1)) (xs (i + 2)) (xs (i + 3)) = u1 at A1 A2 e h1 h2
  generalize mo_dry u1.2 (xs (i + 1)) (xs (i + 2)) (xs (i + 3)) = u2 at A2 e
  refine r_aload_n 2 hC d_law_544 rfl ?_
  refine r_arg 1 hC hX hL hi (by decide) rfl d_law_545 d_law_546 d_law_547 d_law_548 d_law_549 ?_
  refine r_arg 2 hC hX hL hi (by decide) rfl d_law_550 d_law_551 d_law_552 d_law_553 d_law_554 ?_
  refine r_arg 3 hC hX hL hi (by decide) rfl d_law_555 d_law_556 d_law_557 d_law_558 d_law_559 ?_
  refine r_callV (o := 0) (rest := []) (stk1 := [.int u1.1]) hC d_law_560 A1 mw_tb_dry mi_tb_dry mz_tb_dry ml_lw_67 rfl rfl rfl rfl rfl (Nat.le_of_ble_eq_true rfl) rfl ?_
  refine r_aload_n 3 hC d_law_563 rfl ?_
  refine r_arg 1 hC hX hL hi (by decide) rfl d_law_564 d_law_565 d_law_566 d_law_567 d_law_568 ?_
  refine r_arg 2 hC hX hL hi (by decide) rfl d_law_569 d_law_570 d_law_571 d_law_572 d_law_573 ?_
  refine r_arg 3 hC hX hL hi (by decide) rfl d_law_574 d_law_575 d_law_576 d_law_577 d_law_578 ?_
  refine r_callV (o := 49) (rest := [.int u1.1]) (stk1 := [.int u2, .int u1.1]) hC d_law_579 A2 mw_mo_dry mi_mo_dry mz_mo_dry ml_lw_70 rfl rfl rfl rfl rfl (Nat.le_of_ble_eq_true rfl) rfl ?_
  exact t_icmp_eq (tgt := 1185) hC d_law_582 (by decide) e (hg _ h2)
theorem lw_k13 (hC : tt_Cx G κ code "TideTableLaw" 4 14 538) (hX : lw_X G (tt_xs κ) b L xs) (hL : L ≤ 3072) (hi : i + 6 ≤ L) (hk : k < 2147483647) (hr : rl k st st) (hg : ∀ st' : tt_St, rl (k + 1) st' st' → tt_V G κ T st' 1185 (lw_lv G b i) []) : tt_V G κ T st 587 (lw_lv G b i) [] := by
  have A1 := c_tb_stream G st (xs (i + 1)) (xs (i + 2)) (xs (i + 3)) hr.1
  obtain ⟨e, h2⟩ := lw_stream hr hk (xs (i + 1)) (xs (i + 2)) (xs (i + 3))
  have A2 := c_mo_stream G st (xs (i + 1)) (xs (i + 2)) (xs (i + 3)) hr.2.1
  generalize tb_stream st (xs (i + 1)) (xs (i + 2)) (xs (i + 3)) = u1 at A1 e
  generalize mo_stream st (xs (i + 1)) (xs (i + 2)) (xs (i + 3)) = u2 at A2 e
  refine r_aload_n 2 hC d_law_587 rfl ?_
  refine r_arg 1 hC hX hL hi (by decide) rfl d_law_588 d_law_589 d_law_590 d_law_591 d_law_592 ?_
  refine r_arg 2 hC hX hL hi (by decide) rfl d_law_593 d_law_594 d_law_595 d_law_596 d_law_597 ?_
  refine r_arg 3 hC hX hL hi (by decide) rfl d_law_598 d_law_599 d_law_600 d_law_601 d_law_602 ?_
  refine r_callV (o := 0) (rest := []) (stk1 := [.int u1]) hC d_law_603 A1 mw_tb_stream mi_tb_stream mz_tb_stream ml_lw_71 rfl rfl rfl rfl rfl (Nat.le_of_ble_eq_true rfl) rfl ?_
  refine r_aload_n 3 hC d_law_606 rfl ?_
  refine r_arg 1 hC hX hL hi (by decide) rfl d_law_607 d_law_608 d_law_609 d_law_610 d_law_611 ?_
  refine r_arg 2 hC hX hL hi (by decide) rfl d_law_612 d_law_613 d_law_614 d_law_615 d_law_616 ?_
  refine r_arg 3 hC hX hL hi (by decide) rfl d_law_617 d_law_618 d_law_619 d_law_620 d_law_621 ?_
  refine r_callV (o := 49) (rest := [.int u1]) (stk1 := [.int u2, .int u1]) hC d_law_622 A2 mw_mo_stream mi_mo_stream mz_mo_stream ml_lw_74 rfl rfl rfl rfl rfl (Nat.le_of_ble_eq_true rfl) rfl ?_
  exact t_icmp_eq (tgt := 1185) hC d_law_625 (by decide) e (hg _ h2)
theorem lw_k14 (hC : tt_Cx G κ code "TideTableLaw" 4 14 538) (hX : lw_X G (tt_xs κ) b L xs) (hL : L ≤ 3072) (hi : i + 6 ≤ L) (hk : k < 2147483647) (hr : rl k st st) (hg : ∀ st' : tt_St, rl (k + 1) st' st' → tt_V G κ T st' 1185 (lw_lv G b i) []) : tt_V G κ T st 630 (lw_lv G b i) [] := by
  have A1 := c_tb_slack G st (xs (i + 1)) (xs (i + 2)) (xs (i + 3)) hr.1
  obtain ⟨e, h1, h2⟩ := lw_slack hr hk (xs (i + 1)) (xs (i + 2)) (xs (i + 3))
  have A2 := c_mo_slack G (tb_slack st (xs (i + 1)) (xs (i + 2)) (xs (i + 3))).2 (xs (i + 1)) (xs (i + 2)) (xs (i + 3)) h1.2.1
  generalize tb_slack st (xs (i + 1)) (xs (i + 2)) (xs (i + 3)) = u1 at A1 A2 e h1 h2
  generalize mo_slack u1.2 (xs (i + 1)) (xs (i + 2)) (xs (i + 3)) = u2 at A2 e
  refine r_aload_n 2 hC d_law_630 rfl ?_
  refine r_arg 1 hC hX hL hi (by decide) rfl d_law_631 d_law_632 d_law_633 d_law_634 d_law_635 ?_
  refine r_arg 2 hC hX hL hi (by decide) rfl d_law_636 d_law_637 d_law_638 d_law_639 d_law_640 ?_
  refine r_arg 3 hC hX hL hi (by decide) rfl d_law_641 d_law_642 d_law_643 d_law_644 d_law_645 ?_
  refine r_callV (o := 0) (rest := []) (stk1 := [.int u1.1]) hC d_law_646 A1 mw_tb_slack mi_tb_slack mz_tb_slack ml_lw_75 rfl rfl rfl rfl rfl (Nat.le_of_ble_eq_true rfl) rfl ?_
  refine r_aload_n 3 hC d_law_649 rfl ?_
  refine r_arg 1 hC hX hL hi (by decide) rfl d_law_650 d_law_651 d_law_652 d_law_653 d_law_654 ?_
  refine r_arg 2 hC hX hL hi (by decide) rfl d_law_655 d_law_656 d_law_657 d_law_658 d_law_659 ?_
  refine r_arg 3 hC hX hL hi (by decide) rfl d_law_660 d_law_661 d_law_662 d_law_663 d_law_664 ?_
  refine r_callV (o := 49) (rest := [.int u1.1]) (stk1 := [.int u2, .int u1.1]) hC d_law_665 A2 mw_mo_slack mi_mo_slack mz_mo_slack ml_lw_78 rfl rfl rfl rfl rfl (Nat.le_of_ble_eq_true rfl) rfl ?_
  exact t_icmp_eq (tgt := 1185) hC d_law_668 (by decide) e (hg _ h2)
theorem lw_k15 (hC : tt_Cx G κ code "TideTableLaw" 4 14 538) (hX : lw_X G (tt_xs κ) b L xs) (hL : L ≤ 3072) (hi : i + 6 ≤ L) (hk : k < 2147483647) (hr : rl k st st) (hg : ∀ st' : tt_St, rl (k + 1) st' st' → tt_V G κ T st' 1185 (lw_lv G b i) []) : tt_V G κ T st 673 (lw_lv G b i) [] := by
  have A1 := c_tb_trip G st (xs (i + 1)) (xs (i + 2)) (xs (i + 3)) (xs (i + 4)) hr.1
  obtain ⟨e, h1, h2⟩ := lw_trip hr hk (xs (i + 1)) (xs (i + 2)) (xs (i + 3)) (xs (i + 4))
  have A2 := c_mo_trip G (tb_trip st (xs (i + 1)) (xs (i + 2)) (xs (i + 3)) (xs (i + 4))).2 (xs (i + 1)) (xs (i + 2)) (xs (i + 3)) (xs (i + 4)) h1.2.1
  generalize tb_trip st (xs (i + 1)) (xs (i + 2)) (xs (i + 3)) (xs (i + 4)) = u1 at A1 A2 e h1 h2
  generalize mo_trip u1.2 (xs (i + 1)) (xs (i + 2)) (xs (i + 3)) (xs (i + 4)) = u2 at A2 e
  refine r_aload_n 2 hC d_law_673 rfl ?_
  refine r_arg 1 hC hX hL hi (by decide) rfl d_law_674 d_law_675 d_law_676 d_law_677 d_law_678 ?_
  refine r_arg 2 hC hX hL hi (by decide) rfl d_law_679 d_law_680 d_law_681 d_law_682 d_law_683 ?_
  refine r_arg 3 hC hX hL hi (by decide) rfl d_law_684 d_law_685 d_law_686 d_law_687 d_law_688 ?_
  refine r_arg 4 hC hX hL hi (by decide) rfl d_law_689 d_law_690 d_law_691 d_law_692 d_law_693 ?_
  refine r_callV (o := 0) (rest := []) (stk1 := [.int u1.1]) hC d_law_694 A1 mw_tb_trip mi_tb_trip mz_tb_trip ml_lw_79 rfl rfl rfl rfl rfl (Nat.le_of_ble_eq_true rfl) rfl ?_
  refine r_aload_n 3 hC d_law_697 rfl ?_
  refine r_arg 1 hC hX hL hi (by decide) rfl d_law_698 d_law_699 d_law_700 d_law_701 d_law_702 ?_
  refine r_arg 2 hC hX hL hi (by decide) rfl d_law_703 d_law_704 d_law_705 d_law_706 d_law_707 ?_
  refine r_arg 3 hC hX hL hi (by decide) rfl d_law_708 d_law_709 d_law_710 d_law_711 d_law_712 ?_
  refine r_arg 4 hC hX hL hi (by decide) rfl d_law_713 d_law_714 d_law_715 d_law_716 d_law_717 ?_
  refine r_callV (o := 49) (rest := [.int u1.1]) (stk1 := [.int u2, .int u1.1]) hC d_law_718 A2 mw_mo_trip mi_mo_trip mz_mo_trip ml_lw_82 rfl rfl rfl rfl rfl (Nat.le_of_ble_eq_true rfl) rfl ?_
  exact t_icmp_eq (tgt := 1185) hC d_law_721 (by decide) e (hg _ h2)
theorem lw_k16 (hC : tt_Cx G κ code "TideTableLaw" 4 14 538) (hX : lw_X G (tt_xs κ) b L xs) (hL : L ≤ 3072) (hi : i + 6 ≤ L) (hk : k < 2147483647) (hr : rl k st st) (hg : ∀ st' : tt_St, rl (k + 1) st' st' → tt_V G κ T st' 1185 (lw_lv G b i) []) : tt_V G κ T st 726 (lw_lv G b i) [] := by
  have A1 := c_tb_leave G st (xs (i + 1)) (xs (i + 2)) (xs (i + 3)) (xs (i + 4)) (xs (i + 5)) hr.1
  obtain ⟨e, h1, h2⟩ := lw_leave hr hk (xs (i + 1)) (xs (i + 2)) (xs (i + 3)) (xs (i + 4)) (xs (i + 5))
  have A2 := c_mo_leave G (tb_leave st (xs (i + 1)) (xs (i + 2)) (xs (i + 3)) (xs (i + 4)) (xs (i + 5))).2 (xs (i + 1)) (xs (i + 2)) (xs (i + 3)) (xs (i + 4)) (xs (i + 5)) h1.2.1
  generalize tb_leave st (xs (i + 1)) (xs (i + 2)) (xs (i + 3)) (xs (i + 4)) (xs (i + 5)) = u1 at A1 A2 e h1 h2
  generalize mo_leave u1.2 (xs (i + 1)) (xs (i + 2)) (xs (i + 3)) (xs (i + 4)) (xs (i + 5)) = u2 at A2 e
  refine r_aload_n 2 hC d_law_726 rfl ?_
  refine r_arg 1 hC hX hL hi (by decide) rfl d_law_727 d_law_728 d_law_729 d_law_730 d_law_731 ?_
  refine r_arg 2 hC hX hL hi (by decide) rfl d_law_732 d_law_733 d_law_734 d_law_735 d_law_736 ?_
  refine r_arg 3 hC hX hL hi (by decide) rfl d_law_737 d_law_738 d_law_739 d_law_740 d_law_741 ?_
  refine r_arg 4 hC hX hL hi (by decide) rfl d_law_742 d_law_743 d_law_744 d_law_745 d_law_746 ?_
  refine r_arg 5 hC hX hL hi (by decide) rfl d_law_747 d_law_748 d_law_749 d_law_750 d_law_751 ?_
  refine r_callV (o := 0) (rest := []) (stk1 := [.int u1.1]) hC d_law_752 A1 mw_tb_leave mi_tb_leave mz_tb_leave ml_lw_83 rfl rfl rfl rfl rfl (Nat.le_of_ble_eq_true rfl) rfl ?_
  refine r_aload_n 3 hC d_law_755 rfl ?_
  refine r_arg 1 hC hX hL hi (by decide) rfl d_law_756 d_law_757 d_law_758 d_law_759 d_law_760 ?_
  refine r_arg 2 hC hX hL hi (by decide) rfl d_law_761 d_law_762 d_law_763 d_law_764 d_law_765 ?_
  refine r_arg 3 hC hX hL hi (by decide) rfl d_law_766 d_law_767 d_law_768 d_law_769 d_law_770 ?_
  refine r_arg 4 hC hX hL hi (by decide) rfl d_law_771 d_law_772 d_law_773 d_law_774 d_law_775 ?_
  refine r_arg 5 hC hX hL hi (by decide) rfl d_law_776 d_law_777 d_law_778 d_law_779 d_law_780 ?_
  refine r_callV (o := 49) (rest := [.int u1.1]) (stk1 := [.int u2, .int u1.1]) hC d_law_781 A2 mw_mo_leave mi_mo_leave mz_mo_leave ml_lw_86 rfl rfl rfl rfl rfl (Nat.le_of_ble_eq_true rfl) rfl ?_
  exact t_icmp_eq (tgt := 1185) hC d_law_784 (by decide) e (hg _ h2)
theorem lw_k17 (hC : tt_Cx G κ code "TideTableLaw" 4 14 538) (hX : lw_X G (tt_xs κ) b L xs) (hL : L ≤ 3072) (hi : i + 6 ≤ L) (hk : k < 2147483647) (hr : rl k st st) (hg : ∀ st' : tt_St, rl (k + 1) st' st' → tt_V G κ T st' 1185 (lw_lv G b i) []) : tt_V G κ T st 789 (lw_lv G b i) [] := by
  have A1 := c_tb_mean G st (xs (i + 1)) (xs (i + 2)) hr.1
  obtain ⟨e, h1, h2⟩ := lw_mean hr hk (xs (i + 1)) (xs (i + 2))
  have A2 := c_mo_mean G (tb_mean st (xs (i + 1)) (xs (i + 2))).2 (xs (i + 1)) (xs (i + 2)) h1.2.1
  generalize tb_mean st (xs (i + 1)) (xs (i + 2)) = u1 at A1 A2 e h1 h2
  generalize mo_mean u1.2 (xs (i + 1)) (xs (i + 2)) = u2 at A2 e h2
  refine r_aload_n 2 hC d_law_789 rfl ?_
  refine r_arg 1 hC hX hL hi (by decide) rfl d_law_790 d_law_791 d_law_792 d_law_793 d_law_794 ?_
  refine r_arg 2 hC hX hL hi (by decide) rfl d_law_795 d_law_796 d_law_797 d_law_798 d_law_799 ?_
  refine r_callV (o := 0) (rest := []) (stk1 := [.int u1.1]) hC d_law_800 A1 mw_tb_mean mi_tb_mean mz_tb_mean ml_lw_87 rfl rfl rfl rfl rfl (Nat.le_of_ble_eq_true rfl) rfl ?_
  refine r_aload_n 3 hC d_law_803 rfl ?_
  refine r_arg 1 hC hX hL hi (by decide) rfl d_law_804 d_law_805 d_law_806 d_law_807 d_law_808 ?_
  refine r_arg 2 hC hX hL hi (by decide) rfl d_law_809 d_law_810 d_law_811 d_law_812 d_law_813 ?_
  refine r_callV (o := 49) (rest := [.int u1.1]) (stk1 := [.int u2.1, .int u1.1]) hC d_law_814 A2 mw_mo_mean mi_mo_mean mz_mo_mean ml_lw_90 rfl rfl rfl rfl rfl (Nat.le_of_ble_eq_true rfl) rfl ?_
  exact t_icmp_eq (tgt := 1185) hC d_law_817 (by decide) e (hg _ h2)
theorem lw_k18 (hC : tt_Cx G κ code "TideTableLaw" 4 14 538) (hX : lw_X G (tt_xs κ) b L xs) (hL : L ≤ 3072) (hi : i + 6 ≤ L) (hk : k < 2147483647) (hr : rl k st st) (hg : ∀ st' : tt_St, rl (k + 1) st' st' → tt_V G κ T st' 1185 (lw_lv G b i) []) : tt_V G κ T st 822 (lw_lv G b i) [] := by
  have A1 := c_tb_mark G st (xs (i + 1)) (xs (i + 2)) hr.1
  obtain ⟨e, h1, h2⟩ := lw_mark hr hk (xs (i + 1)) (xs (i + 2))
  have A2 := c_mo_mark G (tb_mark st (xs (i + 1)) (xs (i + 2))).2 (xs (i + 1)) (xs (i + 2)) h1.2.1
  generalize tb_mark st (xs (i + 1)) (xs (i + 2)) = u1 at A1 A2 e h1 h2
  generalize mo_mark u1.2 (xs (i + 1)) (xs (i + 2)) = u2 at A2 e h2
  refine r_aload_n 2 hC d_law_822 rfl ?_
  refine r_arg 1 hC hX hL hi (by decide) rfl d_law_823 d_law_824 d_law_825 d_law_826 d_law_827 ?_
  refine r_arg 2 hC hX hL hi (by decide) rfl d_law_828 d_law_829 d_law_830 d_law_831 d_law_832 ?_
  refine r_callV (o := 0) (rest := []) (stk1 := [.int u1.1]) hC d_law_833 A1 mw_tb_mark mi_tb_mark mz_tb_mark ml_lw_91 rfl rfl rfl rfl rfl (Nat.le_of_ble_eq_true rfl) rfl ?_
  refine r_aload_n 3 hC d_law_836 rfl ?_
  refine r_arg 1 hC hX hL hi (by decide) rfl d_law_837 d_law_838 d_law_839 d_law_840 d_law_841 ?_
  refine r_arg 2 hC hX hL hi (by decide) rfl d_law_842 d_law_843 d_law_844 d_law_845 d_law_846 ?_
  refine r_callV (o := 49) (rest := [.int u1.1]) (stk1 := [.int u2.1, .int u1.1]) hC d_law_847 A2 mw_mo_mark mi_mo_mark mz_mo_mark ml_lw_94 rfl rfl rfl rfl rfl (Nat.le_of_ble_eq_true rfl) rfl ?_
  exact t_icmp_eq (tgt := 1185) hC d_law_850 (by decide) e (hg _ h2)
theorem lw_k19 (hC : tt_Cx G κ code "TideTableLaw" 4 14 538) (hX : lw_X G (tt_xs κ) b L xs) (hL : L ≤ 3072) (hi : i + 6 ≤ L) (hk : k < 2147483647) (hr : rl k st st) (hg : ∀ st' : tt_St, rl (k + 1) st' st' → tt_V G κ T st' 1185 (lw_lv G b i) []) : tt_V G κ T st 855 (lw_lv G b i) [] := by
  have A1 := c_tb_ratio G st (xs (i + 1)) (xs (i + 2)) hr.1
  obtain ⟨e, h1, h2⟩ := lw_ratio hr hk (xs (i + 1)) (xs (i + 2))
  have A2 := c_mo_ratio G (tb_ratio st (xs (i + 1)) (xs (i + 2))).2 (xs (i + 1)) (xs (i + 2)) h1.2.1
  generalize tb_ratio st (xs (i + 1)) (xs (i + 2)) = u1 at A1 A2 e h1 h2
  generalize mo_ratio u1.2 (xs (i + 1)) (xs (i + 2)) = u2 at A2 e h2
  refine r_aload_n 2 hC d_law_855 rfl ?_
  refine r_arg 1 hC hX hL hi (by decide) rfl d_law_856 d_law_857 d_law_858 d_law_859 d_law_860 ?_
  refine r_arg 2 hC hX hL hi (by decide) rfl d_law_861 d_law_862 d_law_863 d_law_864 d_law_865 ?_
  refine r_callV (o := 0) (rest := []) (stk1 := [.int u1.1]) hC d_law_866 A1 mw_tb_ratio mi_tb_ratio mz_tb_ratio ml_lw_95 rfl rfl rfl rfl rfl (Nat.le_of_ble_eq_true rfl) rfl ?_
  refine r_aload_n 3 hC d_law_869 rfl ?_
  refine r_arg 1 hC hX hL hi (by decide) rfl d_law_870 d_law_871 d_law_872 d_law_873 d_law_874 ?_
  refine r_arg 2 hC hX hL hi (by decide) rfl d_law_875 d_law_876 d_law_877 d_law_878 d_law_879 ?_
  refine r_callV (o := 49) (rest := [.int u1.1]) (stk1 := [.int u2.1, .int u1.1]) hC d_law_880 A2 mw_mo_ratio mi_mo_ratio mz_mo_ratio ml_lw_98 rfl rfl rfl rfl rfl (Nat.le_of_ble_eq_true rfl) rfl ?_
  exact t_icmp_eq (tgt := 1185) hC d_law_883 (by decide) e (hg _ h2)
theorem lw_k20 (hC : tt_Cx G κ code "TideTableLaw" 4 14 538) (hX : lw_X G (tt_xs κ) b L xs) (hL : L ≤ 3072) (hi : i + 6 ≤ L) (hk : k < 2147483647) (hr : rl k st st) (hg : ∀ st' : tt_St, rl (k + 1) st' st' → tt_V G κ T st' 1185 (lw_lv G b i) []) : tt_V G κ T st 888 (lw_lv G b i) [] := by
  have A1 := c_tb_add G st (xs (i + 1)) (xs (i + 2)) (xs (i + 3)) (xs (i + 4)) hr.1
  obtain ⟨e, h1, h2⟩ := lw_add hr hk (xs (i + 1)) (xs (i + 2)) (xs (i + 3)) (xs (i + 4))
  have A2 := c_mo_add G (tb_add st (xs (i + 1)) (xs (i + 2)) (xs (i + 3)) (xs (i + 4))).2 (xs (i + 1)) (xs (i + 2)) (xs (i + 3)) (xs (i + 4)) h1.2.1
  generalize tb_add st (xs (i + 1)) (xs (i + 2)) (xs (i + 3)) (xs (i + 4)) = u1 at A1 A2 e h1 h2
  generalize mo_add u1.2 (xs (i + 1)) (xs (i + 2)) (xs (i + 3)) (xs (i + 4)) = u2 at A2 e h2
  refine r_aload_n 2 hC d_law_888 rfl ?_
  refine r_arg 1 hC hX hL hi (by decide) rfl d_law_889 d_law_890 d_law_891 d_law_892 d_law_893 ?_
  refine r_arg 2 hC hX hL hi (by decide) rfl d_law_894 d_law_895 d_law_896 d_law_897 d_law_898 ?_
  refine r_arg 3 hC hX hL hi (by decide) rfl d_law_899 d_law_900 d_law_901 d_law_902 d_law_903 ?_
  refine r_arg 4 hC hX hL hi (by decide) rfl d_law_904 d_law_905 d_law_906 d_law_907 d_law_908 ?_
  refine r_callV (o := 0) (rest := []) (stk1 := [.int u1.1]) hC d_law_909 A1 mw_tb_add mi_tb_add mz_tb_add ml_lw_99 rfl rfl rfl rfl rfl (Nat.le_of_ble_eq_true rfl) rfl ?_
  refine r_aload_n 3 hC d_law_912 rfl ?_
  refine r_arg 1 hC hX hL hi (by decide) rfl d_law_913 d_law_914 d_law_915 d_law_916 d_law_917 ?_
  refine r_arg 2 hC hX hL hi (by decide) rfl d_law_918 d_law_919 d_law_920 d_law_921 d_law_922 ?_
  refine r_arg 3 hC hX hL hi (by decide) rfl d_law_923 d_law_924 d_law_925 d_law_926 d_law_927 ?_
  refine r_arg 4 hC hX hL hi (by decide) rfl d_law_928 d_law_929 d_law_930 d_law_931 d_law_932 ?_
  refine r_callV (o := 49) (rest := [.int u1.1]) (stk1 := [.int u2.1, .int u1.1]) hC d_law_933 A2 mw_mo_add mi_mo_add mz_mo_add ml_lw_102 rfl rfl rfl rfl rfl (Nat.le_of_ble_eq_true rfl) rfl ?_
  exact t_icmp_eq (tgt := 1185) hC d_law_936 (by decide) e (hg _ h2)
theorem lw_k21 (hC : tt_Cx G κ code "TideTableLaw" 4 14 538) (hX : lw_X G (tt_xs κ) b L xs) (hL : L ≤ 3072) (hi : i + 6 ≤ L) (hk : k < 2147483647) (hr : rl k st st) (hg : ∀ st' : tt_St, rl (k + 1) st' st' → tt_V G κ T st' 1185 (lw_lv G b i) []) : tt_V G κ T st 941 (lw_lv G b i) [] := by
  have A1 := c_tb_take G st (xs (i + 1)) (xs (i + 2)) hr.1
  obtain ⟨e, h1, h2⟩ := lw_take hr hk (xs (i + 1)) (xs (i + 2))
  have A2 := c_mo_take G (tb_take st (xs (i + 1)) (xs (i + 2))).2 (xs (i + 1)) (xs (i + 2)) h1.2.1
  generalize tb_take st (xs (i + 1)) (xs (i + 2)) = u1 at A1 A2 e h1 h2
  generalize mo_take u1.2 (xs (i + 1)) (xs (i + 2)) = u2 at A2 e h2
  refine r_aload_n 2 hC d_law_941 rfl ?_
  refine r_arg 1 hC hX hL hi (by decide) rfl d_law_942 d_law_943 d_law_944 d_law_945 d_law_946 ?_
  refine r_arg 2 hC hX hL hi (by decide) rfl d_law_947 d_law_948 d_law_949 d_law_950 d_law_951 ?_
  refine r_callV (o := 0) (rest := []) (stk1 := [.int u1.1]) hC d_law_952 A1 mw_tb_take mi_tb_take mz_tb_take ml_lw_103 rfl rfl rfl rfl rfl (Nat.le_of_ble_eq_true rfl) rfl ?_
  refine r_aload_n 3 hC d_law_955 rfl ?_
  refine r_arg 1 hC hX hL hi (by decide) rfl d_law_956 d_law_957 d_law_958 d_law_959 d_law_960 ?_
  refine r_arg 2 hC hX hL hi (by decide) rfl d_law_961 d_law_962 d_law_963 d_law_964 d_law_965 ?_
  refine r_callV (o := 49) (rest := [.int u1.1]) (stk1 := [.int u2.1, .int u1.1]) hC d_law_966 A2 mw_mo_take mi_mo_take mz_mo_take ml_lw_106 rfl rfl rfl rfl rfl (Nat.le_of_ble_eq_true rfl) rfl ?_
  exact t_icmp_eq (tgt := 1185) hC d_law_969 (by decide) e (hg _ h2)
theorem lw_k22 (hC : tt_Cx G κ code "TideTableLaw" 4 14 538) (hX : lw_X G (tt_xs κ) b L xs) (hL : L ≤ 3072) (hi : i + 6 ≤ L) (hk : k < 2147483647) (hr : rl k st st) (hg : ∀ st' : tt_St, rl (k + 1) st' st' → tt_V G κ T st' 1185 (lw_lv G b i) []) : tt_V G κ T st 974 (lw_lv G b i) [] := by
  have A1 := c_tb_be G st (xs (i + 1)) (xs (i + 2)) hr.1
  obtain ⟨e, h1, h2⟩ := lw_be hr hk (xs (i + 1)) (xs (i + 2))
  have A2 := c_mo_be G (tb_be st (xs (i + 1)) (xs (i + 2))).2 (xs (i + 1)) (xs (i + 2)) h1.2.1
  generalize tb_be st (xs (i + 1)) (xs (i + 2)) = u1 at A1 A2 e h1 h2
  generalize mo_be u1.2 (xs (i + 1)) (xs (i + 2)) = u2 at A2 e h2
  refine r_aload_n 2 hC d_law_974 rfl ?_
  refine r_arg 1 hC hX hL hi (by decide) rfl d_law_975 d_law_976 d_law_977 d_law_978 d_law_979 ?_
  refine r_arg 2 hC hX hL hi (by decide) rfl d_law_980 d_law_981 d_law_982 d_law_983 d_law_984 ?_
  refine r_callV (o := 0) (rest := []) (stk1 := [.int u1.1]) hC d_law_985 A1 mw_tb_be mi_tb_be mz_tb_be ml_lw_107 rfl rfl rfl rfl rfl (Nat.le_of_ble_eq_true rfl) rfl ?_
  refine r_aload_n 3 hC d_law_988 rfl ?_
  refine r_arg 1 hC hX hL hi (by decide) rfl d_law_989 d_law_990 d_law_991 d_law_992 d_law_993 ?_
  refine r_arg 2 hC hX hL hi (by decide) rfl d_law_994 d_law_995 d_law_996 d_law_997 d_law_998 ?_
  refine r_callV (o := 49) (rest := [.int u1.1]) (stk1 := [.int u2.1, .int u1.1]) hC d_law_999 A2 mw_mo_be mi_mo_be mz_mo_be ml_lw_110 rfl rfl rfl rfl rfl (Nat.le_of_ble_eq_true rfl) rfl ?_
  exact t_icmp_eq (tgt := 1185) hC d_law_1002 (by decide) e (hg _ h2)
theorem lw_k23 (hC : tt_Cx G κ code "TideTableLaw" 4 14 538) (hX : lw_X G (tt_xs κ) b L xs) (hL : L ≤ 3072) (hi : i + 6 ≤ L) (hk : k < 2147483647) (hr : rl k st st) (hg : ∀ st' : tt_St, rl (k + 1) st' st' → tt_V G κ T st' 1185 (lw_lv G b i) []) : tt_V G κ T st 1007 (lw_lv G b i) [] := by
  obtain ⟨z, hz⟩ : ∃ z : Int32, z = (if xs (i + 3) = 0 then 0 else 1) := ⟨_, rfl⟩
  have A1 := c_tb_see G st (xs (i + 1)) (xs (i + 2)) z hr.1
  obtain ⟨e, h1, h2⟩ := lw_see hr hk (xs (i + 1)) (xs (i + 2)) z
  have A2 := c_mo_see G (tb_see st (xs (i + 1)) (xs (i + 2)) z).2 (xs (i + 1)) (xs (i + 2)) z h1.2.1
  generalize tb_see st (xs (i + 1)) (xs (i + 2)) z = u1 at A1 A2 e h1 h2
  generalize mo_see u1.2 (xs (i + 1)) (xs (i + 2)) z = u2 at A2 e h2
  refine r_aload_n 2 hC d_law_1007 rfl ?_
  refine r_arg 1 hC hX hL hi (by decide) rfl d_law_1008 d_law_1009 d_law_1010 d_law_1011 d_law_1012 ?_
  refine r_arg 2 hC hX hL hi (by decide) rfl d_law_1013 d_law_1014 d_law_1015 d_law_1016 d_law_1017 ?_
  refine r_arg 3 hC hX hL hi (by decide) rfl d_law_1018 d_law_1019 d_law_1020 d_law_1021 d_law_1022 ?_
  suffices hs : tt_V G κ T st 1031 (lw_lv G b i) [.int z, .int (xs (i + 2)), .int (xs (i + 1)), .ref (tt_ad G 0)] by
    refine j_if_eq (tgt := 1030) hC d_law_1023 (by decide) (fun c0 => ?_) (fun c0 => ?_)
    · rw [if_pos c0] at hz
      exact r_iconst (v := z) hC d_law_1030 (by rw [hz]; rfl) hs
    · rw [if_neg c0] at hz
      exact r_iconst (v := z) hC d_law_1026 (by rw [hz]; rfl) (r_goto (tgt := 1031) hC d_law_1027 (by decide) hs)
  refine r_callV (o := 0) (rest := []) (stk1 := [.int u1.1]) hC d_law_1031 A1 mw_tb_see mi_tb_see mz_tb_see ml_lw_111 rfl rfl rfl rfl rfl (Nat.le_of_ble_eq_true rfl) rfl ?_
  refine r_aload_n 3 hC d_law_1034 rfl ?_
  refine r_arg 1 hC hX hL hi (by decide) rfl d_law_1035 d_law_1036 d_law_1037 d_law_1038 d_law_1039 ?_
  refine r_arg 2 hC hX hL hi (by decide) rfl d_law_1040 d_law_1041 d_law_1042 d_law_1043 d_law_1044 ?_
  refine r_arg 3 hC hX hL hi (by decide) rfl d_law_1045 d_law_1046 d_law_1047 d_law_1048 d_law_1049 ?_
  suffices hs : tt_V G κ T u1.2 1058 (lw_lv G b i) [.int z, .int (xs (i + 2)), .int (xs (i + 1)), .ref (tt_ad G 49), .int u1.1] by
    refine j_if_eq (tgt := 1057) hC d_law_1050 (by decide) (fun c0 => ?_) (fun c0 => ?_)
    · rw [if_pos c0] at hz
      exact r_iconst (v := z) hC d_law_1057 (by rw [hz]; rfl) hs
    · rw [if_neg c0] at hz
      exact r_iconst (v := z) hC d_law_1053 (by rw [hz]; rfl) (r_goto (tgt := 1058) hC d_law_1054 (by decide) hs)
  refine r_callV (o := 49) (rest := [.int u1.1]) (stk1 := [.int u2.1, .int u1.1]) hC d_law_1058 A2 mw_mo_see mi_mo_see mz_mo_see ml_lw_115 rfl rfl rfl rfl rfl (Nat.le_of_ble_eq_true rfl) rfl ?_
  exact t_icmp_eq (tgt := 1185) hC d_law_1061 (by decide) e (hg _ h2)
theorem lw_k24 (hC : tt_Cx G κ code "TideTableLaw" 4 14 538) (hX : lw_X G (tt_xs κ) b L xs) (hL : L ≤ 3072) (hi : i + 6 ≤ L) (hk : k < 2147483647) (hr : rl k st st) (hg : ∀ st' : tt_St, rl (k + 1) st' st' → tt_V G κ T st' 1185 (lw_lv G b i) []) : tt_V G κ T st 1066 (lw_lv G b i) [] := by
  have A1 := c_tb_forget G st hr.1
  obtain ⟨e, h1, h2⟩ := lw_forget hr hk
  have A2 := c_mo_forget G (tb_forget st).2
  generalize tb_forget st = u1 at A1 A2 e h1 h2
  generalize mo_forget u1.2 = u2 at A2 e h2
  refine r_aload_n 2 hC d_law_1066 rfl ?_
  refine r_callV (o := 0) (rest := []) (stk1 := [.int u1.1]) hC d_law_1067 A1 mw_tb_forget mi_tb_forget mz_tb_forget ml_lw_116 rfl rfl rfl rfl rfl (Nat.le_of_ble_eq_true rfl) rfl ?_
  refine r_aload_n 3 hC d_law_1070 rfl ?_
  refine r_callV (o := 49) (rest := [.int u1.1]) (stk1 := [.int u2.1, .int u1.1]) hC d_law_1071 A2 mw_mo_forget mi_mo_forget mz_mo_forget ml_lw_119 rfl rfl rfl rfl rfl (Nat.le_of_ble_eq_true rfl) rfl ?_
  exact t_icmp_eq (tgt := 1185) hC d_law_1074 (by decide) e (hg _ h2)
theorem lw_k25 (hC : tt_Cx G κ code "TideTableLaw" 4 14 538) (hX : lw_X G (tt_xs κ) b L xs) (hL : L ≤ 3072) (hi : i + 6 ≤ L) (hk : k < 2147483647) (hr : rl k st st) (hg : ∀ st' : tt_St, rl (k + 1) st' st' → tt_V G κ T st' 1185 (lw_lv G b i) []) : tt_V G κ T st 1079 (lw_lv G b i) [] := by
  have A1 := c_tb_drawn G st (xs (i + 1)) (xs (i + 2)) (xs (i + 3)) hr.1
  obtain ⟨e, h2⟩ := lw_drawn hr hk (xs (i + 1)) (xs (i + 2)) (xs (i + 3))
  have A2 := c_mo_drawn G st (xs (i + 1)) (xs (i + 2)) (xs (i + 3)) hr.2.1
  generalize tb_drawn st (xs (i + 1)) (xs (i + 2)) (xs (i + 3)) = u1 at A1 e
  generalize mo_drawn st (xs (i + 1)) (xs (i + 2)) (xs (i + 3)) = u2 at A2 e h2
  refine r_aload_n 2 hC d_law_1079 rfl ?_
  refine r_arg 1 hC hX hL hi (by decide) rfl d_law_1080 d_law_1081 d_law_1082 d_law_1083 d_law_1084 ?_
  refine r_arg 2 hC hX hL hi (by decide) rfl d_law_1085 d_law_1086 d_law_1087 d_law_1088 d_law_1089 ?_
  refine r_arg 3 hC hX hL hi (by decide) rfl d_law_1090 d_law_1091 d_law_1092 d_law_1093 d_law_1094 ?_
  refine r_callV (o := 0) (rest := []) (stk1 := [.int u1]) hC d_law_1095 A1 mw_tb_drawn mi_tb_drawn mz_tb_drawn ml_lw_120 rfl rfl rfl rfl rfl (Nat.le_of_ble_eq_true rfl) rfl ?_
  refine r_aload_n 3 hC d_law_1098 rfl ?_
  refine r_arg 1 hC hX hL hi (by decide) rfl d_law_1099 d_law_1100 d_law_1101 d_law_1102 d_law_1103 ?_
  refine r_arg 2 hC hX hL hi (by decide) rfl d_law_1104 d_law_1105 d_law_1106 d_law_1107 d_law_1108 ?_
  refine r_arg 3 hC hX hL hi (by decide) rfl d_law_1109 d_law_1110 d_law_1111 d_law_1112 d_law_1113 ?_
  refine r_callV (o := 49) (rest := [.int u1]) (stk1 := [.int u2.1, .int u1]) hC d_law_1114 A2 mw_mo_drawn mi_mo_drawn mz_mo_drawn ml_lw_123 rfl rfl rfl rfl rfl (Nat.le_of_ble_eq_true rfl) rfl ?_
  exact t_icmp_eq (tgt := 1185) hC d_law_1117 (by decide) e (hg _ h2)
theorem lw_k26 (hC : tt_Cx G κ code "TideTableLaw" 4 14 538) (hX : lw_X G (tt_xs κ) b L xs) (hL : L ≤ 3072) (hi : i + 6 ≤ L) (hk : k < 2147483647) (hr : rl k st st) (hg : ∀ st' : tt_St, rl (k + 1) st' st' → tt_V G κ T st' 1185 (lw_lv G b i) []) : tt_V G κ T st 1122 (lw_lv G b i) [] := by
  have A1 := c_tb_image G st hr.1
  obtain ⟨e, h1, h2⟩ := lw_image hr hk
  have A2 := c_mo_image G (tb_image st).2
  generalize tb_image st = u1 at A1 A2 e h1 h2
  generalize mo_image u1.2 = u2 at A2 e h2
  refine r_aload_n 2 hC d_law_1122 rfl ?_
  refine r_callV (o := 0) (rest := []) (stk1 := [.int u1.1]) hC d_law_1123 A1 mw_tb_image mi_tb_image mz_tb_image ml_lw_124 rfl rfl rfl rfl rfl (Nat.le_of_ble_eq_true rfl) rfl ?_
  refine r_aload_n 3 hC d_law_1126 rfl ?_
  refine r_callV (o := 49) (rest := [.int u1.1]) (stk1 := [.int u2.1, .int u1.1]) hC d_law_1127 A2 mw_mo_image mi_mo_image mz_mo_image ml_lw_127 rfl rfl rfl rfl rfl (Nat.le_of_ble_eq_true rfl) rfl ?_
  exact t_icmp_eq (tgt := 1185) hC d_law_1130 (by decide) e (hg _ h2)
theorem lw_k27 (hC : tt_Cx G κ code "TideTableLaw" 4 14 538) (hX : lw_X G (tt_xs κ) b L xs) (hL : L ≤ 3072) (hi : i + 6 ≤ L) (hk : k < 2147483647) (hr : rl k st st) (hg : ∀ st' : tt_St, rl (k + 1) st' st' → tt_V G κ T st' 1185 (lw_lv G b i) []) : tt_V G κ T st 1135 (lw_lv G b i) [] := by
  have A1 := c_tb_restore G st hr.1
  obtain ⟨e, h1, h2⟩ := lw_restore hr hk
  have A2 := c_mo_restore G (tb_restore st).2
  generalize tb_restore st = u1 at A1 A2 e h1 h2
  generalize mo_restore u1.2 = u2 at A2 e h2
  refine r_aload_n 2 hC d_law_1135 rfl ?_
  refine r_callV (o := 0) (rest := []) (stk1 := [.int u1.1]) hC d_law_1136 A1 mw_tb_restore mi_tb_restore mz_tb_restore ml_lw_128 rfl rfl rfl rfl rfl (Nat.le_of_ble_eq_true rfl) rfl ?_
  refine r_aload_n 3 hC d_law_1139 rfl ?_
  refine r_callV (o := 49) (rest := [.int u1.1]) (stk1 := [.int u2.1, .int u1.1]) hC d_law_1140 A2 mw_mo_restore mi_mo_restore mz_mo_restore ml_lw_131 rfl rfl rfl rfl rfl (Nat.le_of_ble_eq_true rfl) rfl ?_
  exact t_icmp_eq (tgt := 1185) hC d_law_1143 (by decide) e (hg _ h2)
theorem lw_k28 (hC : tt_Cx G κ code "TideTableLaw" 4 14 538) (hX : lw_X G (tt_xs κ) b L xs) (hL : L ≤ 3072) (hi : i + 6 ≤ L) (hk : k < 2147483647) (hr : rl k st st) (hg : ∀ st' : tt_St, rl (k + 1) st' st' → tt_V G κ T st' 1185 (lw_lv G b i) []) : tt_V G κ T st 1148 (lw_lv G b i) [] := by
  have A1 := c_tb_count G st (xs (i + 1)) hr.1
  obtain ⟨e, h2⟩ := lw_count hr hk (xs (i + 1))
  have A2 := c_mo_count G st (xs (i + 1)) hr.2.1
  generalize tb_count st (xs (i + 1)) = u1 at A1 e
  generalize mo_count st (xs (i + 1)) = u2 at A2 e
  refine r_aload_n 2 hC d_law_1148 rfl ?_
  refine r_arg 1 hC hX hL hi (by decide) rfl d_law_1149 d_law_1150 d_law_1151 d_law_1152 d_law_1153 ?_
  refine r_callV (o := 0) (rest := []) (stk1 := [.int u1]) hC d_law_1154 A1 mw_tb_count mi_tb_count mz_tb_count ml_lw_132 rfl rfl rfl rfl rfl (Nat.le_of_ble_eq_true rfl) rfl ?_
  refine r_aload_n 3 hC d_law_1157 rfl ?_
  refine r_arg 1 hC hX hL hi (by decide) rfl d_law_1158 d_law_1159 d_law_1160 d_law_1161 d_law_1162 ?_
  refine r_callV (o := 49) (rest := [.int u1]) (stk1 := [.int u2, .int u1]) hC d_law_1163 A2 mw_mo_count mi_mo_count mz_mo_count ml_lw_135 rfl rfl rfl rfl rfl (Nat.le_of_ble_eq_true rfl) rfl ?_
  exact t_icmp_eq (tgt := 1185) hC d_law_1166 (by decide) e (hg _ h2)
theorem lw_k29 (hC : tt_Cx G κ code "TideTableLaw" 4 14 538) (hX : lw_X G (tt_xs κ) b L xs) (hL : L ≤ 3072) (hi : i + 6 ≤ L) (hk : k < 2147483647) (hr : rl k st st) (hg : ∀ st' : tt_St, rl (k + 1) st' st' → tt_V G κ T st' 1185 (lw_lv G b i) []) : tt_V G κ T st 1171 (lw_lv G b i) [] := by
  have A1 := c_tb_digest G st hr.1
  obtain ⟨e, h2⟩ := lw_digest hr hk
  have A2 := c_mo_digest G st hr.2.1
  generalize tb_digest st = u1 at A1 e
  generalize mo_digest st = u2 at A2 e h2
  refine r_aload_n 2 hC d_law_1171 rfl ?_
  refine r_callV (o := 0) (rest := []) (stk1 := [.long u1]) hC d_law_1172 A1 mw_tb_digest mi_tb_digest mz_tb_digest ml_lw_136 rfl rfl rfl rfl rfl (Nat.le_of_ble_eq_true rfl) rfl ?_
  refine r_aload_n 3 hC d_law_1175 rfl ?_
  refine r_callV (o := 49) (rest := [.long u1]) (stk1 := [.long u2.1, .long u1]) hC d_law_1176 A2 mw_mo_digest mi_mo_digest mz_mo_digest ml_lw_140 rfl rfl rfl rfl rfl (Nat.le_of_ble_eq_true rfl) rfl ?_
  refine r_lcmp hC d_law_1179 ?_
  rw [e, lw_cmp]
  exact t_if_eq (tgt := 1185) hC d_law_1180 (by decide) rfl (hg _ h2)
end TC

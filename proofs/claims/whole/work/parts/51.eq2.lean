/-! heights -/
/-- a port of the class, at o, holds what the reference's rows (from a on) hold for port p -/
def rl_port (sc sm : tt_St) (o a p : Nat) : Prop :=
  (tt_I sc o 0 = tt_A sm a p ∧ tt_I sc o 1 = tt_A sm (a + 1) p ∧ tt_I sc o 2 = tt_A sm (a + 2) p ∧ tt_I sc o 3 = tt_A sm (a + 3) p ∧ tt_I sc o 6 = tt_A sm (a + 4) p) ∧
  ∀ w f, w < 3 → w < (tt_I sc o 6).toNatClampNeg → f < 3 → tt_I sc (tt_wv o w) f = tt_A sm (a + 5) (9 * p + 3 * w + f)
def rl_rounds (sm : tt_St) : Prop := ∀ n, n ≤ 64 → tt_A sm 56 n = tb_roundAt (nI n)
theorem eq_ix {p w f : Nat} (hp : p < 4) (hw : w < 3) (hf : f < 3) {x : Int32} (hx : x = nI f) : Int32.toNatClampNeg (((9 * nI p) + (3 * nI w)) + x) = 9 * p + 3 * w + f := by
  subst hx
  have e : ((9 * nI p) + (3 * nI w)) + nI f = nI (9 * p + 3 * w + f) := by
    rw [← nI_add, ← nI_add, ← pk_mul, ← pk_mul]; rfl
  rw [e, nI_clamp (by omega)]
theorem eq_gives {sc sm : tt_St} {p w : Nat} (hr : rl_rounds sm) (hp : p < 4) (hw : w < 3) (h : ∀ f, f < 3 → tt_I sc (tt_wv (9 + p) w) f = tt_A sm 55 (9 * p + 3 * w + f)) (t : Int32) :
    wa_givesAt sc (tt_wv (9 + p) (Int32.toNatClampNeg (nI w))) t = mo_by ((mo_waveNow sm (nI p) (nI w) 1) * (mo_turnAt sm ((((((mo_waveNow sm (nI p) (nI w) 0) * t) + (16 * (mo_waveNow sm (nI p) (nI w) 2))) - (((mo_waveNow sm (nI p) (nI w) 0) * t) + (16 * (mo_waveNow sm (nI p) (nI w) 2))) / 1024 * 1024) + 1024) - (((((mo_waveNow sm (nI p) (nI w) 0) * t) + (16 * (mo_waveNow sm (nI p) (nI w) 2))) - (((mo_waveNow sm (nI p) (nI w) 0) * t) + (16 * (mo_waveNow sm (nI p) (nI w) 2))) / 1024 * 1024) + 1024) / 1024 * 1024))) 100 := by
  have w0 : mo_waveNow sm (nI p) (nI w) 0 = tt_I sc (tt_wv (9 + p) w) 0 := by rw [mo_waveNow, eq_ix hp hw (f := 0) (x := 0) (by decide) rfl, h 0 (by decide)]
  have w1 : mo_waveNow sm (nI p) (nI w) 1 = tt_I sc (tt_wv (9 + p) w) 1 := by rw [mo_waveNow, eq_ix hp hw (f := 1) (x := 1) (by decide) rfl, h 1 (by decide)]
  have w2 : mo_waveNow sm (nI p) (nI w) 2 = tt_I sc (tt_wv (9 + p) w) 2 := by rw [mo_waveNow, eq_ix hp hw (f := 2) (x := 2) (by decide) rfl, h 2 (by decide)]
  rw [w0, w1, w2, eq_wrap, nI_clamp (by omega), wa_givesAt, eq_fd (by decide), eq_turn hr]
theorem eq_sum_l {sc sm : tt_St} {p : Nat} (hr : rl_rounds sm) (hp : p < 4) (h : rl_port sc sm (9 + p) 50 p) (h3 : (tt_I sc (9 + p) 6).toNatClampNeg ≤ 3) (t : Int32) : ∀ (n j : Nat) (x : Int32), j + n = (tt_I sc (9 + p) 6).toNatClampNeg → po_sumAt_l10 sc (9 + p) t n j x = mo_sumAt_l13 sm (nI p) t n j x := by
  intro n
  induction n with
  | zero => intro j x _; rfl
  | succ n ih =>
    intro j x hj
    rw [po_sumAt_l10, mo_sumAt_l13, ih _ _ (by omega), eq_gives hr hp (by omega) (fun f hf => h.2 j f (by omega) (by omega) hf)]
theorem eq_sum {sc sm : tt_St} {p : Nat} (hr : rl_rounds sm) (hp : p < 4) (h : rl_port sc sm (9 + p) 50 p) (h3 : (tt_I sc (9 + p) 6).toNatClampNeg ≤ 3) (t : Int32) : po_sumAt sc (9 + p) t = mo_sumAt sm (nI p) t := by
  rw [po_sumAt, mo_sumAt, nI_clamp (by omega), ← h.1.2.2.2.2, ← h.1.2.1]
  exact eq_sum_l hr hp h h3 t _ _ _ (by omega)
theorem eq_max (a b : Int32) : ma_max a b = (if b ≤ a then a else b) := by
  rw [ma_max]
  by_cases c : a < b
  · rw [if_pos c, if_neg]
    rw [tt_le]; rw [tt_lt] at c; omega
  · rw [if_neg c, if_pos]
    rw [tt_le]; rw [tt_lt] at c; omega
theorem eq_silled {sm : tt_St} {p : Nat} (hp : p < 4) (t : Int32) : mo_silled sm (nI p) t = ma_max (mo_sumAt sm (nI p) t) (10 * tt_A sm 52 p) := by
  rw [mo_silled, ma_max, nI_clamp (by omega)]
  by_cases c : mo_sumAt sm (nI p) t ≤ 10 * tt_A sm 52 p
  · rw [if_pos c]
    by_cases c2 : mo_sumAt sm (nI p) t < 10 * tt_A sm 52 p
    · rw [if_pos c2]
    · rw [if_neg c2, tt_eq]
      rw [tt_le] at c; rw [tt_lt] at c2; omega
  · rw [if_neg c, if_neg]
    rw [tt_le] at c; rw [tt_lt]; omega
theorem eq_maxI (a b : Int32) : (ma_max a b).toInt = max a.toInt b.toInt := by
  rw [ma_max]
  by_cases c : a < b
  · rw [if_pos c]; rw [tt_lt] at c; omega
  · rw [if_neg c]; rw [tt_lt] at c; omega
theorem eq_max_c (a b c : Int32) : ma_max (ma_max a c) b = ma_max (ma_max a c) (ma_max b c) := by
  rw [tt_eq]; simp only [eq_maxI]; omega
theorem eq_basin_l {sc sm : tt_St} {p : Nat} (hr : rl_rounds sm) (hp : p < 4) (h : rl_port sc sm (9 + p) 50 p) (h3 : (tt_I sc (9 + p) 6).toNatClampNeg ≤ 3) (t x3 : Int32) : ∀ (n j : Nat) (x y : Int32), x = ma_max y (10 * tt_A sm 52 p) → po_ownHeightAt_l66 sc (9 + p) t x3 n j x = mo_ownHeight_l53 sm (nI p) t n j x := by
  intro n
  induction n with
  | zero => intro j x y _; rfl
  | succ n ih =>
    intro j x y e
    rw [po_ownHeightAt_l66, mo_ownHeight_l53, eq_sum hr hp h h3]
    have e2 : ma_max x (mo_sumAt sm (nI p) (t - nI j)) = (if mo_silled sm (nI p) (t - nI j) ≤ x then x else mo_silled sm (nI p) (t - nI j)) := by
      rw [← eq_max, eq_silled hp, e, ← eq_max_c]
    rw [← e2]
    have e3 : ma_max x (mo_sumAt sm (nI p) (t - nI j)) = ma_max (ma_max y (mo_sumAt sm (nI p) (t - nI j))) (10 * tt_A sm 52 p) := by
      rw [e, tt_eq]; simp only [eq_maxI]; omega
    exact ih _ _ _ e3
theorem eq_own {sc sm : tt_St} {p : Nat} (hr : rl_rounds sm) (hp : p < 4) (h : rl_port sc sm (9 + p) 50 p) (h3 : (tt_I sc (9 + p) 6).toNatClampNeg ≤ 3) (t : Int32) : po_ownHeightAt sc (9 + p) t = mo_ownHeight sm (nI p) t := by
  have hs := eq_sum hr hp h h3
  have hk := h.1.1
  have hm := h.1.2.2.1
  rw [po_ownHeightAt, mo_ownHeight, nI_clamp (by omega), ← hk, hs, hm, po_isOddDay, eq_fd (by decide), po_isA]
  by_cases k1 : tt_I sc (9 + p) 0 = 1
  · rw [k1]
    simp only [show ¬ (1 : Int32) = 0 from by decide, show ¬ (1 : Int32) = 2 from by decide, show ¬ (1 : Int32) = 4 from by decide, if_true, if_false]
    rw [eq_silled hp]
    rfl
  · by_cases k2 : tt_I sc (9 + p) 0 = 2
    · rw [k2]
      simp only [show ¬ (1 : Int32) = 0 from by decide, show ¬ (1 : Int32) = 2 from by decide, show ¬ (2 : Int32) = 4 from by decide, show ¬ (2 : Int32) = 1 from by decide, if_true, if_false]
      rw [eq_silled hp]
      exact eq_basin_l hr hp h h3 t 6 6 1 _ _ rfl
    · have k1' : ¬ (1 : Int32) = tt_I sc (9 + p) 0 := fun q => k1 q.symm
      simp only [k1, k1', k2, show ¬ (1 : Int32) = 0 from by decide, if_true, if_false]
      have z : ∀ x : Int32, po_ownHeightAt_l66 sc (9 + p) t 0 (Int32.toNatClampNeg 0) 1 x = x := fun x => rfl
      rw [z]
      by_cases k4 : tt_I sc (9 + p) 0 = 4
      · simp only [k4, show ¬ (4 : Int32) = 3 from by decide, if_true, if_false]
        by_cases c : mo_by t 144 &&& 1 = 1
        · simp only [c, if_true, show ¬ (1 : Int32) = 0 from by decide, if_false]
        · simp only [c, if_false, if_true, Int32.add_zero]
      · simp only [k4, if_false]
        by_cases k3 : tt_I sc (9 + p) 0 = 3
        · simp only [k3, if_true]
        · simp only [k3, if_false]

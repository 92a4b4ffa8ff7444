theorem tt_enter_pi {y : MethodName} {cc : ByteArray} {nL : Nat} {ret : Option FieldType} {fr lo : Nat} {G : tt_G} {av : List Value} {st : tt_St} {T : Int32}
    (hy : plainFor y = true) (hlen : (lg_sl av).length ≤ nL) (body : ∀ κ : tt_X (Int32), tt_Cx G κ cc y.cls nL fr lo → tt_Rt G κ ret (fun r => (some (.int r), st)) → tt_V G κ T st 0 (lv_args 0 av) []) :
    tt_C y cc nL ret fr lo G av st (some (.int T)) st := tt_enter (α := Int32) (T := T) (mk := fun r => (some (.int r), st)) hy hlen body
theorem tt_enter_pl {y : MethodName} {cc : ByteArray} {nL : Nat} {ret : Option FieldType} {fr lo : Nat} {G : tt_G} {av : List Value} {st : tt_St} {T : Int64}
    (hy : plainFor y = true) (hlen : (lg_sl av).length ≤ nL) (body : ∀ κ : tt_X (Int64), tt_Cx G κ cc y.cls nL fr lo → tt_Rt G κ ret (fun r => (some (.long r), st)) → tt_V G κ T st 0 (lv_args 0 av) []) :
    tt_C y cc nL ret fr lo G av st (some (.long T)) st := tt_enter (α := Int64) (T := T) (mk := fun r => (some (.long r), st)) hy hlen body
theorem tt_enter_si {y : MethodName} {cc : ByteArray} {nL : Nat} {ret : Option FieldType} {fr lo : Nat} {G : tt_G} {av : List Value} {st : tt_St} {T : Int32 × tt_St}
    (hy : plainFor y = true) (hlen : (lg_sl av).length ≤ nL) (body : ∀ κ : tt_X (Int32 × tt_St), tt_Cx G κ cc y.cls nL fr lo → tt_Rt G κ ret (fun r => (some (.int r.1), r.2)) → tt_V G κ T st 0 (lv_args 0 av) []) :
    tt_C y cc nL ret fr lo G av st (some (.int T.1)) T.2 := tt_enter (α := Int32 × tt_St) (T := T) (mk := fun r => (some (.int r.1), r.2)) hy hlen body
theorem tt_enter_sl {y : MethodName} {cc : ByteArray} {nL : Nat} {ret : Option FieldType} {fr lo : Nat} {G : tt_G} {av : List Value} {st : tt_St} {T : Int64 × tt_St}
    (hy : plainFor y = true) (hlen : (lg_sl av).length ≤ nL) (body : ∀ κ : tt_X (Int64 × tt_St), tt_Cx G κ cc y.cls nL fr lo → tt_Rt G κ ret (fun r => (some (.long r.1), r.2)) → tt_V G κ T st 0 (lv_args 0 av) []) :
    tt_C y cc nL ret fr lo G av st (some (.long T.1)) T.2 := tt_enter (α := Int64 × tt_St) (T := T) (mk := fun r => (some (.long r.1), r.2)) hy hlen body
theorem tt_enter_sv {y : MethodName} {cc : ByteArray} {nL : Nat} {ret : Option FieldType} {fr lo : Nat} {G : tt_G} {av : List Value} {st : tt_St} {T : tt_St}
    (hy : plainFor y = true) (hlen : (lg_sl av).length ≤ nL) (body : ∀ κ : tt_X (tt_St), tt_Cx G κ cc y.cls nL fr lo → tt_Rt G κ ret (fun r => (none, r)) → tt_V G κ T st 0 (lv_args 0 av) []) :
    tt_C y cc nL ret fr lo G av st none T := tt_enter (α := tt_St) (T := T) (mk := fun r => (none, r)) hy hlen body
theorem mo_rpl {a1 x2 : Int32} : ∀ (n : Nat) (x3 : Int32) (st : tt_St), (∀ f, f ≠ 16 → f ≠ 24 → tt_I (mo_readPort_l153 a1 x2 n x3 st).2 49 f = tt_I st 49 f) ∧ ((0 ≤ x3.toInt ∧ x3.toInt + 6 * (n : Int) ≤ 900) → x3.toInt ≤ (mo_readPort_l153 a1 x2 n x3 st).1.toInt ∧ (mo_readPort_l153 a1 x2 n x3 st).1.toInt ≤ x3.toInt + 6 * (n : Int)) := by
  intro n
  induction n with
  | zero => intro x3 st; exact ⟨fun _ _ _ => rfl, fun h => ⟨Int.le_refl _, by show x3.toInt ≤ _; omega⟩⟩
  | succ n ih =>
    intro x3 st
    rw [mo_readPort_l153]
    have base : (∀ f, f ≠ 16 → f ≠ 24 → tt_I ((x3, st) : Int32 × tt_St).2 49 f = tt_I st 49 f) ∧ ((0 ≤ x3.toInt ∧ x3.toInt + 6 * ((n + 1 : Nat) : Int) ≤ 900) → x3.toInt ≤ ((x3, st) : Int32 × tt_St).1.toInt ∧ ((x3, st) : Int32 × tt_St).1.toInt ≤ x3.toInt + 6 * ((n + 1 : Nat) : Int)) := ⟨fun _ _ _ => rfl, fun h => ⟨Int.le_refl _, by show x3.toInt ≤ _; omega⟩⟩
    have step : (∀ f, f ≠ 16 → f ≠ 24 → tt_I (mo_readPort_l153 a1 x2 n (mo_readWave st x3).1 (mo_readWave st x3).2).2 49 f = tt_I st 49 f) ∧ ((0 ≤ x3.toInt ∧ x3.toInt + 6 * ((n + 1 : Nat) : Int) ≤ 900) → x3.toInt ≤ (mo_readPort_l153 a1 x2 n (mo_readWave st x3).1 (mo_readWave st x3).2).1.toInt ∧ (mo_readPort_l153 a1 x2 n (mo_readWave st x3).1 (mo_readWave st x3).2).1.toInt ≤ x3.toInt + 6 * ((n + 1 : Nat) : Int)) := by
      obtain ⟨h1, h2⟩ := ih (mo_readWave st x3).1 (mo_readWave st x3).2
      refine ⟨fun f hf hf2 => (h1 f hf hf2).trans (mo_rw_I hf hf2), fun h => ?_⟩
      have h3 := mo_rw_kk (st := st) (x := x3) (by omega)
      have h4 := h2 (by omega)
      omega
    let Q : Int32 × tt_St → Prop := fun r => (∀ f, f ≠ 16 → f ≠ 24 → tt_I r.2 49 f = tt_I st 49 f) ∧ ((0 ≤ x3.toInt ∧ x3.toInt + 6 * ((n + 1 : Nat) : Int) ≤ 900) → x3.toInt ≤ r.1.toInt ∧ r.1.toInt ≤ x3.toInt + 6 * ((n + 1 : Nat) : Int))
    exact tt_iteQ Q (tt_iteQ Q base (tt_iteQ Q base (tt_iteQ Q step (tt_iteQ Q base step)))) base
/-- what a port's end does to the numbers -/
def mo_rpQ (st : tt_St) (y lo : Int) (r : Int32 × tt_St) : Prop := (∀ f, f ≠ 16 → f ≠ 24 → f ≠ 17 → tt_I r.2 49 f = tt_I st 49 f) ∧ tt_I r.2 49 17 = tt_I st 49 17 + 1 ∧ y ≤ r.1.toInt ∧ r.1.toInt ≤ y + lo
theorem mo_rpQ_end {a1 x2 y0 : Int32} {st st' : tt_St} (hs : ∀ f, f ≠ 16 → f ≠ 24 → tt_I st' 49 f = tt_I st 49 f) (hk : 0 ≤ y0.toInt ∧ y0.toInt ≤ 800) : mo_rpQ st y0.toInt 24 ((mo_readPort_l153 a1 x2 4 y0 st').1, tt_pI (mo_readPort_l153 a1 x2 4 y0 st').2 49 17 (tt_I (mo_readPort_l153 a1 x2 4 y0 st').2 49 17 + 1)) := by
  obtain ⟨h1, h2⟩ := mo_rpl (a1 := a1) (x2 := x2) 4 y0 st'
  have h3 := h2 (by omega)
  refine ⟨fun f hf hf2 hf3 => ?_, ?_, h3.1, by have := h3.2; show (mo_readPort_l153 a1 x2 4 y0 st').1.toInt ≤ _; omega⟩
  · show tt_I (tt_pI _ 49 17 _) 49 f = _
    rw [← hs f hf hf2, ← h1 f hf hf2]
    simp [tt_I, tt_pI, hf3]
  · show tt_I (tt_pI _ 49 17 _) 49 17 = _
    rw [h1 17 (by decide) (by decide), hs 17 (by decide) (by decide)]
    simp [tt_I, tt_pI]
theorem mo_rpQ_mono {st st' : tt_St} {y y' lo lo' : Int} {r : Int32 × tt_St} (h : mo_rpQ st' y' lo' r) (hs : ∀ f, f ≠ 16 → f ≠ 24 → tt_I st' 49 f = tt_I st 49 f) (h1 : y ≤ y') (h2 : y' + lo' ≤ y + lo) : mo_rpQ st y lo r := by
  obtain ⟨a, b, c, d⟩ := h
  exact ⟨fun f hf hf2 hf3 => (a f hf hf2 hf3).trans (hs f hf hf2), by rw [b, hs 17 (by decide) (by decide)], by omega, by omega⟩
theorem mo_k139_Q {a1 x2 y0 : Int32} {st : tt_St} (hk : 0 ≤ y0.toInt ∧ y0.toInt ≤ 800) : mo_rpQ st y0.toInt 24 (mo_readPort_k139 a1 x2 y0 st) := by
  rw [mo_readPort_k139]
  exact mo_rpQ_end (fun _ _ _ => rfl) hk
theorem mo_k105_Q {a1 x2 y0 : Int32} {st : tt_St} (hk : 0 ≤ y0.toInt ∧ y0.toInt ≤ 790) : mo_rpQ st y0.toInt 26 (mo_readPort_k105 a1 x2 y0 st) := by
  rw [mo_readPort_k105]
  have base := mo_rpQ_mono (y := y0.toInt) (lo := 26) (mo_rpQ_end (a1 := a1) (x2 := x2) (y0 := y0) (st := st) (st' := tt_pA st 63 (Int32.toNatClampNeg (tt_I st 49 17)) (tt_I st 49 24)) (fun _ _ _ => rfl) (by omega)) (fun _ _ _ => rfl) (by omega) (by omega)
  refine tt_iteQ _ (tt_iteQ _ ?_ base) base
  have h := mo_rn_k (st := tt_pA st 63 (Int32.toNatClampNeg (tt_I st 49 17)) (tt_I st 49 24)) (k := y0) (l := 0) (m := 99) (by omega)
  exact mo_rpQ_mono (mo_k139_Q (by omega)) (fun f hf hf2 => mo_rn_I hf hf2) (by omega) (by omega)
theorem mo_k76_Q {a1 x2 y0 : Int32} {st : tt_St} (hk : 0 ≤ y0.toInt ∧ y0.toInt ≤ 780) : mo_rpQ st y0.toInt 28 (mo_readPort_k76 a1 x2 y0 st) := by
  rw [mo_readPort_k76]
  have base := mo_rpQ_mono (y := y0.toInt) (lo := 28) (mo_rpQ_end (a1 := a1) (x2 := x2) (y0 := y0) (st := st) (st' := tt_pA st 62 (Int32.toNatClampNeg (tt_I st 49 17)) (tt_I st 49 24)) (fun _ _ _ => rfl) (by omega)) (fun _ _ _ => rfl) (by omega) (by omega)
  have h := mo_rn_k (st := tt_pA st 62 (Int32.toNatClampNeg (tt_I st 49 17)) (tt_I st 49 24)) (k := y0) (l := 0) (m := 99) (by omega)
  refine tt_iteQ _ ?_ (tt_iteQ _ (tt_iteQ _ ?_ base) base)
  · exact mo_rpQ_mono (mo_k105_Q (by omega)) (fun f hf hf2 => mo_rn_I hf hf2) (by omega) (by omega)
  · exact mo_rpQ_mono (mo_k139_Q (by omega)) (fun f hf hf2 => mo_rn_I hf hf2) (by omega) (by omega)
theorem mo_rp_Q {a1 : Int32} {st : tt_St} (hk : 0 ≤ a1.toInt ∧ a1.toInt ≤ 700) : mo_readPort st a1 = (a1, tt_pI st 49 16 1) ∨ mo_rpQ st a1.toInt 31 (mo_readPort st a1) := by
  rw [mo_readPort]
  have e := tt_addn (a := a1) (b := 1) (n := 1) rfl (by omega) (by omega)
  let Q : Int32 × tt_St → Prop := fun r => r = (a1, tt_pI st 49 16 1) ∨ mo_rpQ st a1.toInt 31 r
  have big : ∀ (x2 : Int32) (st' : tt_St), (∀ f, f ≠ 16 → f ≠ 24 → tt_I st' 49 f = tt_I st 49 f) → Q (mo_readPort_k76 a1 x2 (mo_readNumber st' (a1 + 1) 0 99).1 (mo_readNumber st' (a1 + 1) 0 99).2) := by
    intro x2 st' hs
    have h := mo_rn_k (st := st') (k := a1 + 1) (l := 0) (m := 99) (by omega)
    exact Or.inr (mo_rpQ_mono (mo_k76_Q (by omega)) (fun f hf hf2 => (mo_rn_I hf hf2).trans (hs f hf hf2)) (by omega) (by omega))
  exact tt_iteQ Q (Or.inl rfl) (tt_iteQ Q (tt_iteQ Q (Or.inl rfl) (big _ _ (fun _ _ _ => rfl))) (big _ _ (fun _ _ _ => rfl)))
theorem mo_rp_pl {a1 : Int32} {st : tt_St} (hk : 0 ≤ a1.toInt ∧ a1.toInt ≤ 700) (hl : mo_pl st) : mo_pl (mo_readPort st a1).2 := by
  rcases mo_rp_Q (st := st) hk with h | h
  · rw [h]; exact hl
  · unfold mo_pl
    rw [h.1 13 (by decide) (by decide) (by decide)]
    exact hl
/-- how far the reading of ports is, with fuel n -/
def mo_rdM (st : tt_St) (n : Nat) : Prop := 1 ≤ n ∧ (¬ tt_I st 49 16 = 0 ∨ (0 ≤ (tt_I st 49 17).toInt ∧ 5 ≤ (tt_I st 49 17).toInt + (n : Int))) ∧ 0 ≤ (tt_I st 49 17).toInt ∧ (tt_I st 49 17).toInt ≤ 4
theorem mo_rdM_step {a1 : Int32} {st : tt_St} {n : Nat} (hk : 0 ≤ a1.toInt ∧ a1.toInt ≤ 700) (hn : 1 ≤ n) (h1 : 0 ≤ (tt_I st 49 17).toInt ∧ (tt_I st 49 17).toInt ≤ 3) (h2 : 5 ≤ (tt_I st 49 17).toInt + ((n + 1 : Nat) : Int)) : mo_rdM (mo_readPort st a1).2 n := by
  rcases mo_rp_Q (st := st) hk with h | h
  · rw [h]
    refine ⟨hn, Or.inl ?_, h1.1, by have := h1.2; show (tt_I st 49 17).toInt ≤ 4; omega⟩
    show ¬ tt_I (tt_pI st 49 16 1) 49 16 = 0
    simp [tt_I, tt_pI]
  · have e := tt_addn (a := tt_I st 49 17) (b := 1) (n := 1) rfl (by omega) (by omega)
    refine ⟨hn, Or.inr ?_, ?_, ?_⟩ <;> rw [h.2.1, e] <;> omega
theorem mo_rd_k {a1 : Int32} {st : tt_St} {n : Nat} (hk : 0 ≤ a1.toInt ∧ a1.toInt + 40 * ((n + 1 : Nat) : Int) ≤ 400) : 0 ≤ (mo_readPort st (a1 + 1)).1.toInt ∧ (mo_readPort st (a1 + 1)).1.toInt + 40 * (n : Int) ≤ 400 := by
  have e := tt_addn (a := a1) (b := 1) (n := 1) rfl (by omega) (by omega)
  rcases mo_rp_Q (st := st) (a1 := a1 + 1) (by omega) with h | h
  · rw [h]
    show 0 ≤ (a1 + 1).toInt ∧ (a1 + 1).toInt + 40 * (n : Int) ≤ 400
    omega
  · have h3 := h.2.2
    omega
theorem mo_rd_in {st : tt_St} {n : Nat} (hm : mo_rdM st n) (h : ¬ 4 ≤ tt_I st 49 17) : vp_in (tt_I st 49 17) 4 := by
  have e : (4 : Int32).toInt = 4 := rfl
  rw [tt_le, e] at h
  exact tt_in hm.2.2.1 (by omega)
theorem mo_rd_step {st : tt_St} {x1 : Int32} {n : Nat} (hm : mo_rdM st (n + 1)) (hk : 0 ≤ x1.toInt ∧ x1.toInt + 40 * ((n + 1 : Nat) : Int) ≤ 400) (hb : tt_I st 49 16 = 0) (h : ¬ 4 ≤ tt_I st 49 17) : mo_rdM (mo_readPort st (x1 + 1)).2 n := by
  have e : (4 : Int32).toInt = 4 := rfl
  have e1 := tt_addn (a := x1) (b := 1) (n := 1) rfl (by omega) (by omega)
  rw [tt_le, e] at h
  obtain ⟨m1, m2, m3, m4⟩ := hm
  have m5 := m2.resolve_left (fun q => q hb)
  exact mo_rdM_step (by omega) (by omega) ⟨m3, by omega⟩ m5.2
theorem mo_rd0_k {st : tt_St} : 0 ≤ (mo_readPort st 0).1.toInt ∧ (mo_readPort st 0).1.toInt + 40 * ((5 : Nat) : Int) ≤ 400 := by
  rcases mo_rp_Q (st := st) (a1 := 0) (by decide) with h | h
  · rw [h]
    show 0 ≤ (0 : Int32).toInt ∧ (0 : Int32).toInt + 40 * ((5 : Nat) : Int) ≤ 400
    decide
  · have h3 := h.2.2
    have e : (0 : Int32).toInt = 0 := rfl
    omega

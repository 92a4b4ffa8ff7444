/-! the reference reads a port: its head -/
theorem k139_bad {a x y : Int32} {st : tt_St} (h : tt_I st 49 16 = 1) : ∃ F, mo_readPort_k139 a x y st = (y, F) ∧ sx st F ∧ tt_I F 49 16 = 1 := by
  refine ⟨tt_pI (tt_pA st 64 (Int32.toNatClampNeg (tt_I st 49 17)) (tt_I st 49 24)) 49 17 (tt_I (tt_pA st 64 (Int32.toNatClampNeg (tt_I st 49 17)) (tt_I st 49 24)) 49 17 + 1), ?_, (sx.pA st _ (by omega)).trans (sx.pI _ _ (by omega)), (px_I (by omega)).trans h⟩
  have h' : tt_I (tt_pA st 64 (Int32.toNatClampNeg (tt_I st 49 17)) (tt_I st 49 24)) 49 16 = 1 := h
  rw [mo_readPort_k139, p153_stop h']
theorem k105_bad {a x y : Int32} {st : tt_St} (h : tt_I st 49 16 = 1) : ∃ F, mo_readPort_k105 a x y st = (y, F) ∧ sx st F ∧ tt_I F 49 16 = 1 := by
  refine ⟨tt_pI (tt_pA st 63 (Int32.toNatClampNeg (tt_I st 49 17)) (tt_I st 49 24)) 49 17 (tt_I (tt_pA st 63 (Int32.toNatClampNeg (tt_I st 49 17)) (tt_I st 49 24)) 49 17 + 1), ?_, (sx.pA st _ (by omega)).trans (sx.pI _ _ (by omega)), (px_I (by omega)).trans h⟩
  have h' : tt_I (tt_pA st 63 (Int32.toNatClampNeg (tt_I st 49 17)) (tt_I st 49 24)) 49 16 = 1 := h
  rw [mo_readPort_k105, h', if_neg (by decide), p153_stop h']
theorem k76_bad {a x y : Int32} {st : tt_St} (h : tt_I st 49 16 = 1) : ∃ F, mo_readPort_k76 a x y st = (y, F) ∧ sx st F ∧ tt_I F 49 16 = 1 := by
  refine ⟨tt_pI (tt_pA st 62 (Int32.toNatClampNeg (tt_I st 49 17)) (tt_I st 49 24)) 49 17 (tt_I (tt_pA st 62 (Int32.toNatClampNeg (tt_I st 49 17)) (tt_I st 49 24)) 49 17 + 1), ?_, (sx.pA st _ (by omega)).trans (sx.pI _ _ (by omega)), (px_I (by omega)).trans h⟩
  have h' : tt_I (tt_pA st 62 (Int32.toNatClampNeg (tt_I st 49 17)) (tt_I st 49 24)) 49 16 = 1 := h
  rw [mo_readPort_k76, h', if_neg (by decide), if_neg (by decide), p153_stop h']
/-- how many waves a port's text has -/
def tx_M (c : Nat → Int32) (N k : Nat) : Nat := if mo_kindBy (tx_at c N k) = 3 then 0 else tx_many c N 3 0 (k + 5)
/-- what a reader has of a port -/
def tx_has (s s' : tt_St) (c : Nat → Int32) (N p k : Nat) : Prop :=
  tt_A s' 61 p = mo_kindBy (tx_at c N k) ∧ tt_A s' 62 p = tx_nm c N (k + 1) ∧ tt_A s' 63 p = tx_nm c N (k + 3) ∧ tt_A s' 64 p = (if mo_kindBy (tx_at c N k) = 3 then tx_nm c N (k + 5) else 50) ∧ tt_A s' 65 p = nI (tx_M c N k) ∧ (∀ i, 9 * p ≤ i → i < 9 * p + 3 * tx_M c N k → tt_A s' 66 i = tx_nm c N (k + 5 + 2 * (i - 9 * p))) ∧ ∀ a i, ¬ (61 ≤ a ∧ a ≤ 65 ∧ i = p) → ¬ (a = 66 ∧ 9 * p ≤ i ∧ i < 9 * p + 9) → tt_A s' a i = tt_A s a i
def oP (s : tt_St) (c : Nat → Int32) (N p k : Nat) (t : Nat × Bool) (r : Int32 × tt_St) : Prop := r.1 = nI t.1 ∧ sx s r.2 ∧ (t.2 = false → tt_I r.2 49 16 = 1) ∧ (t.2 = true → tt_I r.2 49 16 = 0 ∧ tt_I r.2 49 17 = nI (p + 1) ∧ tx_has s r.2 c N p k)
theorem oP_bad {s F : tt_St} {c : Nat → Int32} {N p k : Nat} {t : Nat × Bool} {x : Int32} (g1 : sx s F) (g2 : tt_I F 49 16 = 1) (g3 : x = nI t.1) (g4 : t.2 = false) : oP s c N p k t (x, F) := ⟨g3, g1, fun _ => g2, fun q => by rw [g4] at q; exact Bool.noConfusion q⟩
/-- the end of a port: its waves, or none -/
theorem mr_tail {s0 s : tt_St} {c : Nat → Int32} {N p k j : Nat} {a1 x2 : Int32} (hp : p < 4) (hj : j < 600) (h : tx_of s c N) (h0 : sx s0 s) (h16 : tt_I s 49 16 = 0) (h17 : tt_I s 49 17 = nI p) (h65 : tt_A s 65 p = nI 0) (hx : x2 = mo_kindBy (tx_at c N k)) (hjk : ¬ x2 = 3 → j = k + 5)
    (g1 : tt_A s 61 p = mo_kindBy (tx_at c N k)) (g2 : tt_A s 62 p = tx_nm c N (k + 1)) (g3 : tt_A s 63 p = tx_nm c N (k + 3)) (g4 : tt_A s 64 p = (if mo_kindBy (tx_at c N k) = 3 then tx_nm c N (k + 5) else 50)) (g5 : ∀ a i, ¬ (61 ≤ a ∧ a ≤ 65 ∧ i = p) → tt_A s a i = tt_A s0 a i) :
    oP s0 c N p k (if x2 = 3 then (j, true) else tx_waves c N 3 0 (k + 5)) ((mo_readPort_l153 a1 x2 4 (nI j) s).1, tt_pI (mo_readPort_l153 a1 x2 4 (nI j) s).2 49 17 (tt_I (mo_readPort_l153 a1 x2 4 (nI j) s).2 49 17 + 1)) := by
  by_cases c3 : x2 = 3
  · have e : mo_readPort_l153 a1 x2 4 (nI j) s = (nI j, s) := by
      rw [show (4 : Nat) = 3 + 1 from rfl, mo_readPort_l153, if_pos h16, if_pos c3]
    rw [e, if_pos c3]
    have hM : tx_M c N k = 0 := by rw [tx_M, if_pos (hx ▸ c3)]
    refine ⟨Eq.refl _, h0.trans (sx.pI s _ (by omega)), fun q => Bool.noConfusion q, fun _ => ⟨(px_I (by omega)).trans h16, ?_, g1, g2, g3, g4, by rw [hM]; exact h65, fun i q1 q2 => absurd q2 (by rw [hM]; omega), fun a i q1 q2 => g5 a i q1⟩⟩
    show tt_I (tt_pI s 49 17 (tt_I s 49 17 + 1)) 49 17 = _
    rw [px_I1, h17, nI_1]
  · have hj' := hjk c3
    subst hj'
    have kw : vP s c N p 0 (k + 5) (tx_waves c N 3 0 (k + 5)) (tx_many c N 3 0 (k + 5)) (mo_readPort_l153 a1 x2 4 (nI (k + 5)) s) := mr_waves (c := c) (N := N) (a1 := a1) (x2 := x2) hp c3 3 0 (k + 5) s (by omega) (by omega) h h16 h17 h65
    rw [if_neg c3]
    have hM : tx_M c N k = tx_many c N 3 0 (k + 5) := by rw [tx_M, if_neg (hx ▸ c3)]
    generalize mo_readPort_l153 a1 x2 4 (nI (k + 5)) s = r at kw ⊢
    obtain ⟨x, F⟩ := r
    obtain ⟨k1, k2, k3, k4⟩ := kw
    refine ⟨k1, (h0.trans k2).trans (sx.pI F _ (by omega)), fun q => (px_I (by omega)).trans (k3 q), fun q => ?_⟩
    obtain ⟨m1, m2, m3, m4⟩ := k4 q
    have m3' : tt_I F 49 17 = nI p := m3
    have m4' : ∀ a i, tt_A (tt_pI F 49 17 (tt_I F 49 17 + 1)) a i = (if a = 65 ∧ i = p then nI (tx_many c N 3 0 (k + 5)) else if a = 66 ∧ 9 * p + 3 * 0 ≤ i ∧ i < 9 * p + 3 * tx_many c N 3 0 (k + 5) then tx_nm c N (k + 5 + 2 * (i - (9 * p + 3 * 0))) else tt_A s a i) := m4
    have hb := tx_many_b (c := c) (N := N) 3 0 (k + 5)
    refine ⟨(px_I (by omega)).trans m2, ?_, ?_, ?_, ?_, ?_, ?_, fun i q1 q2 => ?_, fun a i q1 q2 => ?_⟩
    · show tt_I (tt_pI F 49 17 (tt_I F 49 17 + 1)) 49 17 = _
      rw [px_I1, m3', nI_1]
    · show tt_A (tt_pI F 49 17 (tt_I F 49 17 + 1)) 61 p = _
      rw [m4', if_neg (by omega), if_neg (by omega), g1]
    · show tt_A (tt_pI F 49 17 (tt_I F 49 17 + 1)) 62 p = _
      rw [m4', if_neg (by omega), if_neg (by omega), g2]
    · show tt_A (tt_pI F 49 17 (tt_I F 49 17 + 1)) 63 p = _
      rw [m4', if_neg (by omega), if_neg (by omega), g3]
    · show tt_A (tt_pI F 49 17 (tt_I F 49 17 + 1)) 64 p = _
      rw [m4', if_neg (by omega), if_neg (by omega), g4]
    · show tt_A (tt_pI F 49 17 (tt_I F 49 17 + 1)) 65 p = _
      rw [m4', if_pos ⟨Eq.refl _, Eq.refl _⟩, hM]
    · show tt_A (tt_pI F 49 17 (tt_I F 49 17 + 1)) 66 i = _
      rw [hM] at q2
      rw [m4', if_neg (by omega), if_pos (by omega), show 9 * p + 3 * 0 = 9 * p from by omega]
    · show tt_A (tt_pI F 49 17 (tt_I F 49 17 + 1)) a i = _
      rw [m4', if_neg (by omega), if_neg (by omega), g5 a i q1]

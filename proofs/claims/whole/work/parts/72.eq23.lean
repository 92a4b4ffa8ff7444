/-! the reference reads a port, and the page -/
theorem mr_port {s : tt_St} {c : Nat → Int32} {N p k : Nat} (h : tx_of s c N) (hp : p < 4) (hk : k < 500) (h16 : tt_I s 49 16 = 0) (h17 : tt_I s 49 17 = nI p) : oP s c N p k (tx_port c N p k) (mo_readPort s (nI k)) := by
  have t1 : ∀ (s : tt_St) (x y : Nat) (v : Int32) (o f : Nat), tt_I (tt_pA s x y v) o f = tt_I s o f := fun _ _ _ _ _ _ => Eq.refl _
  have t2 : ∀ (s : tt_St) (x y : Nat) (v : Int32) (o f : Nat), tt_A (tt_pI s x y v) o f = tt_A s o f := fun _ _ _ _ _ _ => Eq.refl _
  have e17 : tt_I s 49 17 = 0 ↔ p = 0 := by rw [h17]; exact nI_inj4 (q := 0) hp (by omega)
  rw [mo_readPort, tx_mo h (by omega)]
  simp only [t1]
  by_cases c0 : mo_kindBy (tx_at c N k) = -10001
  · rw [if_pos c0, tx_port, if_pos c0]
    exact oP_bad (sx.pI s _ (by omega)) px_I1 (Eq.refl _) (Eq.refl _)
  rw [if_neg c0]
  by_cases c1 : mo_kindBy (tx_at c N k) = 3 ∧ p = 0
  · rw [if_pos c1.1, if_pos (e17.mpr c1.2), tx_port, if_neg c0, if_pos c1]
    exact oP_bad (sx.pI s _ (by omega)) px_I1 (Eq.refl _) (Eq.refl _)
  have body : oP s c N p k (tx_port c N p k) (mo_readPort_k76 (nI k) (mo_kindBy (tx_at c N k)) ((mo_readNumber (tt_pA (tt_pA (tt_pA s 61 (Int32.toNatClampNeg (tt_I s 49 17)) (mo_kindBy (tx_at c N k))) 65 (Int32.toNatClampNeg (tt_I s 49 17)) 0) 64 (Int32.toNatClampNeg (tt_I s 49 17)) 50) (nI k + 1) 0 99).1) ((mo_readNumber (tt_pA (tt_pA (tt_pA s 61 (Int32.toNatClampNeg (tt_I s 49 17)) (mo_kindBy (tx_at c N k))) 65 (Int32.toNatClampNeg (tt_I s 49 17)) 0) 64 (Int32.toNatClampNeg (tt_I s 49 17)) 50) (nI k + 1) 0 99).2)) := by
    rw [tx_port, if_neg c0, if_neg c1, h17, nI_clamp (by omega), nI_1]
    have s1 : sx s (tt_pA (tt_pA (tt_pA s 61 p (mo_kindBy (tx_at c N k))) 65 p 0) 64 p 50) := ((sx.pA s _ (by omega)).trans (sx.pA _ _ (by omega))).trans (sx.pA _ _ (by omega))
    have s16 : tt_I (tt_pA (tt_pA (tt_pA s 61 p (mo_kindBy (tx_at c N k))) 65 p 0) 64 p 50) 49 16 = 0 := h16
    have s17 : tt_I (tt_pA (tt_pA (tt_pA s 61 p (mo_kindBy (tx_at c N k))) 65 p 0) 64 p 50) 49 17 = nI p := h17
    have a61 : tt_A (tt_pA (tt_pA (tt_pA s 61 p (mo_kindBy (tx_at c N k))) 65 p 0) 64 p 50) 61 p = mo_kindBy (tx_at c N k) := by rw [px_A (by omega), px_A (by omega), px_A1]
    have a65 : tt_A (tt_pA (tt_pA (tt_pA s 61 p (mo_kindBy (tx_at c N k))) 65 p 0) 64 p 50) 65 p = nI 0 := by rw [px_A (by omega), px_A1]; rfl
    have a64 : tt_A (tt_pA (tt_pA (tt_pA s 61 p (mo_kindBy (tx_at c N k))) 65 p 0) 64 p 50) 64 p = 50 := px_A1
    have aO : ∀ a i, ¬ (61 ≤ a ∧ a ≤ 65 ∧ i = p) → tt_A (tt_pA (tt_pA (tt_pA s 61 p (mo_kindBy (tx_at c N k))) 65 p 0) 64 p 50) a i = tt_A s a i := fun a i q => by rw [px_A (by omega), px_A (by omega), px_A (by omega)]
    generalize tt_pA (tt_pA (tt_pA s 61 p (mo_kindBy (tx_at c N k))) 65 p 0) 64 p 50 = u at s1 s16 s17 a61 a65 a64 aO ⊢
    obtain ⟨b1, b2, b3⟩ := mr_num (s1.tx h) (j := k + 1) (by omega) 0 99
    by_cases c2 : (tx_num c N (k + 1) 0 99).2 = false
    · obtain ⟨d1, d2, _⟩ := b3 c2
      obtain ⟨F, f1, f2, f3⟩ := k76_bad (a := nI k) (x := mo_kindBy (tx_at c N k)) (y := (mo_readNumber u (nI (k + 1)) 0 99).1) d2
      rw [if_pos c2, f1]
      exact oP_bad (s1.trans (d1.trans f2)) f3 b1 c2
    have c2' : (tx_num c N (k + 1) 0 99).2 = true := by simpa using c2
    rw [if_neg c2, b1, (tx_num_ok c2').1, b2 c2', mo_readPort_k76]
    simp only [t1]
    rw [px_I (show ¬ (49 = 49 ∧ 16 = 24) from by omega), s16, if_pos (Eq.refl _), px_I (show ¬ (49 = 49 ∧ 17 = 24) from by omega), s17, nI_clamp (by omega), px_I1, show k + 1 + 2 = k + 3 from rfl]
    have v1 : sx s (tt_pA (tt_pI u 49 24 (tx_nm c N (k + 1))) 62 p (tx_nm c N (k + 1))) := s1.trans ((sx.pI u _ (by omega)).trans (sx.pA _ _ (by omega)))
    have v16 : tt_I (tt_pA (tt_pI u 49 24 (tx_nm c N (k + 1))) 62 p (tx_nm c N (k + 1))) 49 16 = 0 := by rw [t1, px_I (by omega), s16]
    have v17 : tt_I (tt_pA (tt_pI u 49 24 (tx_nm c N (k + 1))) 62 p (tx_nm c N (k + 1))) 49 17 = nI p := by rw [t1, px_I (by omega), s17]
    have v62 : tt_A (tt_pA (tt_pI u 49 24 (tx_nm c N (k + 1))) 62 p (tx_nm c N (k + 1))) 62 p = tx_nm c N (k + 1) := px_A1
    have vO : ∀ a i, ¬ (a = 62 ∧ i = p) → tt_A (tt_pA (tt_pI u 49 24 (tx_nm c N (k + 1))) 62 p (tx_nm c N (k + 1))) a i = tt_A u a i := fun a i q => px_A q
    generalize tt_pA (tt_pI u 49 24 (tx_nm c N (k + 1))) 62 p (tx_nm c N (k + 1)) = v at v1 v16 v17 v62 vO ⊢
    obtain ⟨b1, b2, b3⟩ := mr_num (v1.tx h) (j := k + 3) (by omega) 0 99
    by_cases c3 : (tx_num c N (k + 3) 0 99).2 = false
    · obtain ⟨d1, d2, _⟩ := b3 c3
      obtain ⟨F, f1, f2, f3⟩ := k105_bad (a := nI k) (x := mo_kindBy (tx_at c N k)) (y := (mo_readNumber v (nI (k + 3)) 0 99).1) d2
      rw [if_pos c3, f1]
      exact oP_bad (v1.trans (d1.trans f2)) f3 b1 c3
    have c3' : (tx_num c N (k + 3) 0 99).2 = true := by simpa using c3
    rw [if_neg c3, b1, (tx_num_ok c3').1, b2 c3', mo_readPort_k105]
    simp only [t1]
    rw [px_I (show ¬ (49 = 49 ∧ 16 = 24) from by omega), v16, if_pos (Eq.refl _), px_I (show ¬ (49 = 49 ∧ 17 = 24) from by omega), v17, nI_clamp (by omega), px_I1, show k + 3 + 2 = k + 5 from rfl]
    have w1 : sx s (tt_pA (tt_pI v 49 24 (tx_nm c N (k + 3))) 63 p (tx_nm c N (k + 3))) := v1.trans ((sx.pI v _ (by omega)).trans (sx.pA _ _ (by omega)))
    have w16 : tt_I (tt_pA (tt_pI v 49 24 (tx_nm c N (k + 3))) 63 p (tx_nm c N (k + 3))) 49 16 = 0 := by rw [t1, px_I (by omega), v16]
    have w17 : tt_I (tt_pA (tt_pI v 49 24 (tx_nm c N (k + 3))) 63 p (tx_nm c N (k + 3))) 49 17 = nI p := by rw [t1, px_I (by omega), v17]
    have w63 : tt_A (tt_pA (tt_pI v 49 24 (tx_nm c N (k + 3))) 63 p (tx_nm c N (k + 3))) 63 p = tx_nm c N (k + 3) := px_A1
    have wO : ∀ a i, ¬ (a = 63 ∧ i = p) → tt_A (tt_pA (tt_pI v 49 24 (tx_nm c N (k + 3))) 63 p (tx_nm c N (k + 3))) a i = tt_A v a i := fun a i q => px_A q
    generalize tt_pA (tt_pI v 49 24 (tx_nm c N (k + 3))) 63 p (tx_nm c N (k + 3)) = w at w1 w16 w17 w63 wO ⊢
    by_cases c4 : mo_kindBy (tx_at c N k) = 3
    · rw [if_pos c4, if_pos c4]
      obtain ⟨b1, b2, b3⟩ := mr_num (w1.tx h) (j := k + 5) (by omega) 0 99
      by_cases c5 : (tx_num c N (k + 5) 0 99).2 = false
      · obtain ⟨d1, d2, _⟩ := b3 c5
        obtain ⟨F, f1, f2, f3⟩ := k139_bad (a := nI k) (x := mo_kindBy (tx_at c N k)) (y := (mo_readNumber w (nI (k + 5)) 0 99).1) d2
        rw [f1]
        exact oP_bad (w1.trans (d1.trans f2)) f3 b1 c5
      have c5' : (tx_num c N (k + 5) 0 99).2 = true := by simpa using c5
      have e5 : tx_num c N (k + 5) 0 99 = (k + 7, true) := Prod.ext (tx_num_ok c5').1 c5'
      rw [b1, b2 c5', e5, mo_readPort_k139]
      simp only [t1]
      rw [px_I (show ¬ (49 = 49 ∧ 17 = 24) from by omega), w17, nI_clamp (by omega), px_I1]
      have fin := mr_tail (s0 := s) (s := tt_pA (tt_pI w 49 24 (tx_nm c N (k + 5))) 64 p (tx_nm c N (k + 5))) (c := c) (N := N) (p := p) (k := k) (j := k + 7) (a1 := nI k) (x2 := mo_kindBy (tx_at c N k)) hp (by omega) (((w1.trans ((sx.pI w _ (by omega)).trans (sx.pA _ _ (by omega)))) : sx s _).tx h) (w1.trans ((sx.pI w _ (by omega)).trans (sx.pA _ _ (by omega)))) (by rw [t1, px_I (by omega), w16]) (by rw [t1, px_I (by omega), w17]) (by rw [px_A (by omega), t2, wO _ _ (by omega), vO _ _ (by omega), a65]) (Eq.refl _) (fun q => absurd c4 q) (by rw [px_A (by omega), t2, wO _ _ (by omega), vO _ _ (by omega), a61]) (by rw [px_A (by omega), t2, wO _ _ (by omega), v62]) (by rw [px_A (by omega), t2, w63]) (by rw [px_A1, if_pos c4]) (fun a i q => by rw [px_A (by omega), t2, wO _ _ (by omega), vO _ _ (by omega), aO _ _ q])
      rw [if_pos c4] at fin
      exact fin
    · rw [if_neg c4, if_neg c4]
      have fin := mr_tail (s0 := s) (s := w) (c := c) (N := N) (p := p) (k := k) (j := k + 5) (a1 := nI k) (x2 := mo_kindBy (tx_at c N k)) hp (by omega) (w1.tx h) w1 w16 w17 (by rw [wO _ _ (by omega), vO _ _ (by omega), a65]) (Eq.refl _) (fun _ => Eq.refl _) (by rw [wO _ _ (by omega), vO _ _ (by omega), a61]) (by rw [wO _ _ (by omega), v62]) w63 (by rw [wO _ _ (by omega), vO _ _ (by omega), a64, if_neg c4]) (fun a i q => by rw [wO _ _ (by omega), vO _ _ (by omega), aO _ _ q])
      rw [if_neg c4] at fin
      exact fin
  by_cases c2 : mo_kindBy (tx_at c N k) = 3
  · rw [if_pos c2, if_neg (fun q => c1 ⟨c2, e17.mp q⟩)]
    exact body
  · rw [if_neg c2]
    exact body

/-! ports: the class reads the page -/
theorem cr_into {c : Nat → Int32} {N n : Nat} (hN : N ≤ 96) (hn : n ≤ 4) (hr : ∀ j, j < N → 32 ≤ (c j).toInt ∧ (c j).toInt ≤ 126) (hok : ∀ q, q < n → (tx_port c N q (tx_b c N q)).2 = true) (hcm : ∀ q, 1 ≤ q → q < n → tx_at c N (tx_b c N q - 1) = 44) (hlast : N + 1 = tx_b c N n) : ∀ (m p k : Nat) (st : tt_St), p + m = n → m < k → tt_I st 1 1 = nI N → (∀ j, j < N → tt_A st 2 j = c j) → tt_I st 3 1 = nI p →
    (pg_readInto_l12 3 k (nI (tx_b c N p)) st).2.2 = st.2 ∧ tt_I (pg_readInto_l12 3 k (nI (tx_b c N p)) st).2 3 1 = nI n ∧
    (∀ o f, ¬ (o = 3 ∧ f = 1) → ¬ (9 + p ≤ o ∧ o < 9 + n) → ¬ (25 + 3 * p ≤ o ∧ o < 25 + 3 * n) → tt_I (pg_readInto_l12 3 k (nI (tx_b c N p)) st).2 o f = tt_I st o f) ∧
    (∀ q f, p ≤ q → q < n → (f < 5 ∨ f = 6) → tt_I (pg_readInto_l12 3 k (nI (tx_b c N p)) st).2 (9 + q) f = tx_f c N (tx_b c N q) f) ∧
    (∀ q w f, p ≤ q → q < n → w < tx_M c N (tx_b c N q) → f < 3 → tt_I (pg_readInto_l12 3 k (nI (tx_b c N p)) st).2 (25 + 3 * q + w) f = tx_nm c N (tx_b c N q + 5 + 6 * w + 2 * f)) := by
  have M3 : ∀ k, tx_M c N k ≤ 3 := fun k => by
    unfold tx_M
    by_cases c3 : mo_kindBy (tx_at c N k) = 3
    · rw [if_pos c3]; omega
    · rw [if_neg c3]; have := tx_many_b (c := c) (N := N) 3 0 (k + 5); omega
  intro m
  induction m with
  | zero =>
    intro p k st hp hk h1 hA h3
    have pn : p = n := by omega
    subst pn
    obtain ⟨k, rfl⟩ : ∃ q, k = q + 1 := ⟨k - 1, by omega⟩
    have e : pg_readInto_l12 3 (k + 1) (nI (tx_b c N p)) st = (nI (tx_b c N p), st) := by
      rw [pg_readInto_l12, h1, if_pos (by rw [← hlast]; exact nI_le (by omega) (by omega))]
    rw [e]
    exact ⟨Eq.refl _, h3, fun _ _ _ _ _ => Eq.refl _, fun q f q1 q2 => absurd q2 (by omega), fun q w f q1 q2 => absurd q2 (by omega)⟩
  | succ m ih =>
    intro p k st hp hk h1 hA h3
    obtain ⟨k, rfl⟩ : ∃ q, k = q + 1 := ⟨k - 1, by omega⟩
    have ok := hok p (by omega)
    have lt := fg_lt (tx_num_ok (tx_port_ok ok).2.2.1).2.2.2.1
    have xN := tx_b_le (c := c) (N := N) (p + 1)
    have eb : tx_b c N (p + 1) = (tx_port c N p (tx_b c N p)).1 + 1 := rfl
    have hend : (tx_port c N p (tx_b c N p)).1 = N ∨ tx_at c N (tx_port c N p (tx_b c N p)).1 = 44 := by
      by_cases q : p + 1 = n
      · left; rw [← q] at hlast; omega
      · right
        have := hcm (p + 1) (by omega) (by omega)
        rw [eb, Nat.add_sub_cancel] at this
        exact this
    have hxN : (tx_port c N p (tx_b c N p)).1 ≤ N := by
      rcases hend with q | q
      · omega
      · apply Classical.not_not.mp
        intro z
        rw [tx_at, if_pos (by omega)] at q
        exact absurd q (by decide)
    have n4 : ¬ (4 : Int32) ≤ nI p := nI_ge (a := p) (b := 4) (by omega) (by omega)
    have hpo : tt_po 3 p = 9 + p := by unfold tt_po; omega
    obtain ⟨r1, r2, r3⟩ := cr_port (st := st) (c := c) (N := N) (n := p) (k := tx_b c N p) (o := 9 + p) (by omega) hN h1 hA hr ok hend hxN
    rw [pg_readInto_l12, h1, if_neg (nI_ge (by omega) (by omega)), h3, if_neg n4, nI_clamp (by omega), hpo, r1, nI_1, ← eb]
    generalize (pg_readPort st (nI (tx_b c N p)) (9 + p)).2 = s1 at r2 r3 ⊢
    have W : ∀ w, tt_wv (9 + p) w = 25 + 3 * p + w := fun w => by unfold tt_wv; omega
    simp only [W] at r3
    have M3p := M3 (tx_b c N p)
    have keep : ∀ o f, ¬ (o = 9 + p) → ¬ (25 + 3 * p ≤ o ∧ o < 28 + 3 * p) → tt_I s1 o f = tt_I st o f := fun o f q1 q2 => by
      rw [r3, if_neg (by omega), if_neg (by omega)]
    have e31 : tt_I s1 3 1 = nI p := by rw [keep 3 1 (by omega) (by omega), h3]
    rw [e31, nI_1]
    obtain ⟨i1, i2, i3, i4, i5⟩ := ih (p + 1) k (tt_pI s1 3 1 (nI (p + 1))) (by omega) (by omega) (by rw [px_I (by omega), keep 1 1 (by omega) (by omega), h1]) (fun j hj => (congrFun (congrFun (congrArg Prod.snd r2) 2) j).trans (hA j hj)) px_I1
    refine ⟨i1.trans r2, i2, fun o f q1 q2 q3 => ?_, fun q f q1 q2 hf => ?_, fun q w f q1 q2 hw hf => ?_⟩
    · rw [i3 o f q1 (by omega) (by omega), px_I q1, keep o f (by omega) (by omega)]
    · by_cases cq : q = p
      · subst cq
        rw [i3 _ f (by omega) (by omega) (by omega), px_I (by omega), r3, if_pos ⟨Eq.refl _, hf⟩]
      · exact i4 q f (by omega) q2 hf
    · have := M3 (tx_b c N q)
      by_cases cq : q = p
      · subst cq
        rw [i3 _ f (by omega) (by omega) (by omega), px_I (by omega), r3, if_neg (by omega), if_pos (by omega), show 25 + 3 * q + w - (25 + 3 * q + 0) = w from by omega]
      · exact i5 q w f (by omega) q2 hw hf

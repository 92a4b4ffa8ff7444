/-! ports: what a page that is whole holds -/
theorem tr_comma {c : Nat → Int32} {N : Nat} : ∀ (m n x : Nat), x + 1 = tx_b c N n → (tx_rest c N m n x).2.1 = true → ∀ p, n ≤ p → p < (tx_rest c N m n x).2.2 → tx_at c N (tx_b c N p - 1) = 44 := by
  intro m
  induction m with
  | zero =>
    intro n x hx h p h1 h2
    rw [tx_rest] at h2
    exact absurd (show p < n from h2) (by omega)
  | succ m ih =>
    intro n x hx h p h1 h2
    rw [tx_rest] at h h2
    by_cases c1 : tx_at c N x = 44
    · rw [if_pos c1] at h h2
      by_cases c2 : (tx_port c N n (x + 1)).2 = false
      · rw [if_pos c2] at h; exact Bool.noConfusion h
      · rw [if_neg c2] at h h2
        by_cases cp : p = n
        · rw [cp, ← hx]; exact c1
        · exact ih (n + 1) _ (by rw [tx_b, ← hx]) h p (by omega) h2
    · rw [if_neg c1] at h h2
      exact absurd (show p < n from h2) (by omega)
/-- between two ports of a page stands a comma -/
theorem tr_all {c : Nat → Int32} {N : Nat} (h : (tx_read c N).2.1 = true) {p : Nat} (h1 : 1 ≤ p) (h2 : p < (tx_read c N).2.2) : tx_at c N (tx_b c N p - 1) = 44 := by
  rw [tx_read] at h h2
  by_cases c2 : (tx_port c N 0 0).2 = false
  · rw [if_pos c2] at h; exact Bool.noConfusion h
  · rw [if_neg c2] at h h2
    exact tr_comma 3 1 _ (by rw [tx_b, tx_b]) h p h1 h2
/-- the class's number -/
theorem cn_at {st : tt_St} {c : Nat → Int32} {N j : Nat} (h1 : tt_I st 1 1 = nI N) (hN : N ≤ 96) (hA : ∀ j, j < N → tt_A st 2 j = c j) (hj : j + 1 < N) : pg_numberAt st (nI j) = tx_nm c N j := by
  have e : nI j + 1 < nI N := by rw [nI_1]; exact nI_lt hj (by omega)
  rw [pg_numberAt, if_neg (nI_pos (by omega)), h1, if_pos e, nI_1, nI_clamp (by omega), nI_clamp (by omega), hA j (by omega), hA (j + 1) hj, tx_nm, tx_at, tx_at, if_neg (by omega), if_neg (by omega)]
theorem fg_lt {c : Nat → Int32} {N k : Nat} (q : tx_fig c N k = true) : k < N := by
  apply Classical.not_not.mp
  intro z
  rw [tx_fig, tx_at, if_pos (by omega)] at q
  exact absurd q (by decide)
theorem tx_wave_ok3 {c : Nat → Int32} {N j : Nat} (h : (tx_wave c N j).2 = true) : (tx_num c N j 1 99).2 = true ∧ (tx_num c N (j + 2) 0 99).2 = true ∧ (tx_num c N (j + 4) 0 63).2 = true := by
  unfold tx_wave at h
  by_cases c1 : (tx_num c N j 1 99).2 = false
  · rw [if_pos c1, c1] at h; exact Bool.noConfusion h
  rw [if_neg c1] at h
  by_cases c2 : (tx_num c N (j + 2) 0 99).2 = false
  · rw [if_pos c2, c2] at h; exact Bool.noConfusion h
  rw [if_neg c2] at h
  exact ⟨by simpa using c1, by simpa using c2, h⟩
/-- waves that were read -/
theorem tx_waves_ok {c : Nat → Int32} {N : Nat} : ∀ (m w j : Nat), (tx_waves c N m w j).2 = true → (tx_waves c N m w j).1 = j + 6 * (tx_many c N m w j - w) ∧ (w = 0 → 0 < m → 1 ≤ tx_many c N m w j) ∧ ∀ v, w ≤ v → v < tx_many c N m w j → (tx_wave c N (j + 6 * (v - w))).2 = true := by
  intro m
  induction m with
  | zero => intro w j h; rw [tx_waves, tx_many]; exact ⟨by simp, fun _ q => absurd q (by omega), fun v q1 q2 => absurd q2 (by omega)⟩
  | succ m ih =>
    intro w j h
    rw [tx_waves] at h ⊢
    rw [tx_many]
    by_cases q : ¬ w = 0 ∧ tx_fig c N j = false
    · rw [if_pos q, if_pos q]; exact ⟨by simp, fun z => absurd z q.1, fun v q1 q2 => absurd q2 (by omega)⟩
    · rw [if_neg q] at h ⊢
      rw [if_neg q]
      by_cases c1 : (tx_wave c N j).2 = false
      · rw [if_pos c1, c1] at h; exact Bool.noConfusion h
      · rw [if_neg c1] at h ⊢
        have hb := tx_many_b (c := c) (N := N) m (w + 1) (j + 6)
        obtain ⟨i1, i2, i3⟩ := ih (w + 1) (j + 6) h
        refine ⟨by omega, fun _ _ => by omega, fun v q1 q2 => ?_⟩
        by_cases cv : v = w
        · rw [cv, Nat.sub_self]; simpa using c1
        · have := i3 v (by omega) q2
          rw [show j + 6 * (v - w) = j + 6 + 6 * (v - (w + 1)) from by omega]; exact this

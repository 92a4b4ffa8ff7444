/-! ports: the class reads a port's waves -/
theorem cr_waves {c : Nat → Int32} {N o j M : Nat} {a1 : Int32} (ho : 9 ≤ o ∧ o < 17) (hN : N ≤ 96) (hM : M ≤ 3) (hj : j + 6 * M ≤ N) (hend : j + 6 * M = N ∨ tx_at c N (j + 6 * M) = 44) (hw : ∀ v, v < M → (tx_wave c N (j + 6 * v)).2 = true) : ∀ (d w n : Nat) (st : tt_St), w + d = M → d < n → tt_I st 1 1 = nI N → (∀ j, j < N → tt_A st 2 j = c j) → tt_I st o 6 = nI w →
    (pg_readPort_l71 a1 o n (nI (j + 6 * w)) st).1 = nI (j + 6 * M) ∧ (pg_readPort_l71 a1 o n (nI (j + 6 * w)) st).2.2 = st.2 ∧ ∀ o' f, tt_I (pg_readPort_l71 a1 o n (nI (j + 6 * w)) st).2 o' f = (if o' = o ∧ f = 6 then nI M else if tt_wv o w ≤ o' ∧ o' < tt_wv o M ∧ f < 3 then tx_nm c N (j + 6 * (o' - tt_wv o 0) + 2 * f) else tt_I st o' f) := by
  intro d
  induction d with
  | zero =>
    intro w n st hd hn h1 hA h6
    have wM : w = M := by omega
    subst wM
    obtain ⟨n, rfl⟩ : ∃ q, n = q + 1 := ⟨n - 1, by omega⟩
    have e : pg_readPort_l71 a1 o (n + 1) (nI (j + 6 * w)) st = (nI (j + 6 * w), st) := by
      rw [pg_readPort_l71, h1]
      by_cases q : j + 6 * w = N
      · rw [if_pos (by rw [q]; exact nI_le (Nat.le_refl _) (by omega))]
      · have q2 := hend.resolve_left q
        rw [tx_at, if_neg (by omega)] at q2
        rw [if_neg (nI_ge (by omega) (by omega)), nI_clamp (by omega), hA _ (by omega), if_pos q2]
    rw [e]
    refine ⟨Eq.refl _, Eq.refl _, fun o' f => ?_⟩
    by_cases q : o' = o ∧ f = 6
    · rw [if_pos q, q.1, q.2]; exact h6
    · rw [if_neg q, if_neg (by omega)]
  | succ d ih =>
    intro w n st hd hn h1 hA h6
    obtain ⟨n, rfl⟩ : ∃ q, n = q + 1 := ⟨n - 1, by omega⟩
    obtain ⟨k1, k2, k3⟩ := tx_wave_ok3 (hw w (by omega))
    have f1 := tx_num_ok k1
    have n44 : ¬ c (j + 6 * w) = 44 := by
      have := fg_44 f1.2.1
      rw [tx_at, if_neg (by omega)] at this
      exact this
    have x2 : nI (j + 6 * w) + 2 = nI (j + 6 * w + 2) := nI_add (j + 6 * w) 2
    have x4 : nI (j + 6 * w) + 4 = nI (j + 6 * w + 4) := nI_add (j + 6 * w) 4
    have x6 : nI (j + 6 * w) + 6 = nI (j + 6 * (w + 1)) := by rw [show j + 6 * (w + 1) = j + 6 * w + 6 from by omega]; exact nI_add (j + 6 * w) 6
    rw [pg_readPort_l71, h1, if_neg (nI_ge (by omega) (by omega)), nI_clamp (by omega), hA _ (by omega), if_neg n44, x2, x4, x6, cn_at h1 hN hA (by omega), cn_at h1 hN hA (by omega), cn_at h1 hN hA (by omega)]
    have hI := fun o' f => pw_I (a := tx_nm c N (j + 6 * w)) (b := tx_nm c N (j + 6 * w + 2)) (c := tx_nm c N (j + 6 * w + 4)) ho (by omega : w < 3) h6 o' f
    have h2 := pw_2 (st := st) (o := o) (a := tx_nm c N (j + 6 * w)) (b := tx_nm c N (j + 6 * w + 2)) (c := tx_nm c N (j + 6 * w + 4))
    generalize po_putWave st o (tx_nm c N (j + 6 * w)) (tx_nm c N (j + 6 * w + 2)) (tx_nm c N (j + 6 * w + 4)) = s1 at hI h2 ⊢
    have W0 : tt_wv o 0 = 25 + 3 * (o - 9) + 0 := rfl
    have Ww : tt_wv o w = 25 + 3 * (o - 9) + w := rfl
    have W1 : tt_wv o (w + 1) = 25 + 3 * (o - 9) + (w + 1) := rfl
    have WM : tt_wv o M = 25 + 3 * (o - 9) + M := rfl
    have m1 : tt_I s1 1 1 = nI N := by
      have q1 : ¬ (1 = o ∧ 1 = 6) := by omega
      have q2 : ¬ (1 = tt_wv o w ∧ 1 < 3) := by omega
      rw [hI, if_neg q1, if_neg q2, h1]
    have mA : ∀ j, j < N → tt_A s1 2 j = c j := fun i hi => (congrFun (congrFun (congrArg Prod.snd h2) 2) i).trans (hA i hi)
    obtain ⟨i1, i2, i3⟩ := ih (w + 1) n s1 (by omega) (by omega) m1 mA (by rw [hI, if_pos ⟨Eq.refl _, Eq.refl _⟩])
    refine ⟨i1, i2.trans h2, fun o' f => ?_⟩
    rw [i3]
    by_cases q : o' = o ∧ f = 6
    · rw [if_pos q, if_pos q]
    · rw [if_neg q, if_neg q]
      by_cases q1 : o' = tt_wv o w ∧ f < 3
      · have z1 : ¬ (tt_wv o (w + 1) ≤ o' ∧ o' < tt_wv o M ∧ f < 3) := by omega
        have z2 : tt_wv o w ≤ o' ∧ o' < tt_wv o M ∧ f < 3 := by omega
        rw [if_neg z1, if_pos z2, hI, if_neg q, if_pos q1, show j + 6 * (o' - tt_wv o 0) = j + 6 * w from by omega]
        by_cases f0 : f = 0
        · rw [if_pos f0, f0]; rfl
        · by_cases f1 : f = 1
          · rw [if_neg f0, if_pos f1, f1]
          · have f2 : f = 2 := by omega
            rw [if_neg f0, if_neg f1, f2]
      · by_cases q2 : tt_wv o (w + 1) ≤ o' ∧ o' < tt_wv o M ∧ f < 3
        · have z2 : tt_wv o w ≤ o' ∧ o' < tt_wv o M ∧ f < 3 := by omega
          rw [if_pos q2, if_pos z2]
        · have z2 : ¬ (tt_wv o w ≤ o' ∧ o' < tt_wv o M ∧ f < 3) := by omega
          rw [if_neg q2, if_neg z2, hI, if_neg q, if_neg q1]

/-! the class's look at a port, and at the page -/
theorem tn_all : ∀ f : Bool, tlo f (nI (2 * 0 + 1)) = 0 ∧ thi f (nI (2 * 0 + 1)) = 99 ∧ tlo f (nI (2 * 1 + 1)) = 0 ∧ thi f (nI (2 * 1 + 1)) = 99 ∧ ce f (nI (2 * 0 + 1)) = 0 ∧ ce f (nI (2 * 1 + 1)) = 0 ∧ ce f (nI 0) = 0 ∧ tlo true (nI (2 * 2 + 1)) = 0 ∧ thi true (nI (2 * 2 + 1)) = 99 ∧ ce true (nI (2 * 2 + 1)) = 0 ∧ ¬ ce true (nI 7) = 0 := by decide +kernel
theorem cq_port {st : tt_St} {c : Nat → Int32} {N a n : Nat} (h : cx st c N a n) : qP N st a (tx_port c N n a) ∧ ((tx_port c N n a).2 = true → ¬ pg_canEndAhead st (nI (tx_port c N n a).1) = 0 ∧ ((tx_port c N n a).1 < N → pg_fits st (nI (tx_port c N n a).1) = 0)) := by
  have hN96 := h.2.1
  have haN := h.2.2.2.2.2.2.1
  obtain ⟨f, hf⟩ : ∃ f, f = decide (tx_at c N a = 102) := ⟨_, rfl⟩
  obtain ⟨t1, t2, t3, t4, t5, t6, t7, t8, t9, t10, t11⟩ := tn_all f
  have e0 : pg_canEndAhead st (nI a) = 0 := by
    have := pc_r h f hf (r := 0) (by omega)
    rw [show a + 0 = a from rfl] at this
    rw [this, t7]
  have kd := (kd_of (cx_rg h a)).2.1
  by_cases aN : a = N
  · have z : tx_at c N a = 0 := by rw [tx_at, if_pos (by omega)]
    have e : tx_port c N n a = (a, false) := by rw [tx_port, z, if_pos (by decide)]
    rw [e]
    refine ⟨⟨fun _ => ⟨?_, fun _ => by rw [← aN]; exact e0⟩, fun q => Bool.noConfusion q⟩, fun q => Bool.noConfusion q⟩
    show cW N a st = (nI a, st)
    rw [aN]; exact cW_end h
  have aN' : a < N := by omega
  have F0 := pf_0 h aN'
  rw [tx_port]
  by_cases c0 : mo_kindBy (tx_at c N a) = -10001
  · rw [if_pos c0]
    exact ⟨⟨fun _ => ⟨cW_bad h aN' (F0.mpr (Or.inl c0)) (fun _ => Or.inl e0), fun q => absurd q (by simp only; omega)⟩, fun q => Bool.noConfusion q⟩, fun q => Bool.noConfusion q⟩
  rw [if_neg c0]
  by_cases c1 : mo_kindBy (tx_at c N a) = 3 ∧ n = 0
  · rw [if_pos c1]
    exact ⟨⟨fun _ => ⟨cW_bad h aN' (F0.mpr (Or.inr c1)) (fun _ => Or.inl e0), fun q => absurd q (by simp only; omega)⟩, fun q => Bool.noConfusion q⟩, fun q => Bool.noConfusion q⟩
  rw [if_neg c1]
  have n44 : ¬ tx_at c N a = 44 := fun q => by rw [q] at c0; exact c0 (by decide)
  have s1 : cW N a st = cW N (a + 1) st := cW_ok h aN' (fun q => (F0.mp q).elim c0 c1) n44
  have q1 : qP N st (a + 1) (tx_num c N (a + 1) 0 99) := cq_num (i := 0) h f hf (by cases f <;> decide) (by omega) (Or.inr t5) 0 99 t1 t2
  by_cases c2 : (tx_num c N (a + 1) 0 99).2 = false
  · rw [if_pos c2]
    exact ⟨⟨fun q => ⟨s1.trans (q1.1 q).1, (q1.1 q).2⟩, fun q => by rw [c2] at q; exact Bool.noConfusion q⟩, fun q => by rw [c2] at q; exact Bool.noConfusion q⟩
  have c2' : (tx_num c N (a + 1) 0 99).2 = true := by simpa using c2
  obtain ⟨u1, u2⟩ := q1.2 c2'
  rw [(tx_num_ok c2').1] at u1 u2
  have s2 : cW N a st = cW N (a + 3) st := s1.trans u1
  rw [if_neg c2]
  have q2 : qP N st (a + 3) (tx_num c N (a + 3) 0 99) := cq_num (i := 1) h f hf (by cases f <;> decide) (by omega) (Or.inr t6) 0 99 t3 t4
  by_cases c3 : (tx_num c N (a + 3) 0 99).2 = false
  · rw [if_pos c3]
    exact ⟨⟨fun q => ⟨s2.trans (q2.1 q).1, (q2.1 q).2⟩, fun q => by rw [c3] at q; exact Bool.noConfusion q⟩, fun q => by rw [c3] at q; exact Bool.noConfusion q⟩
  have c3' : (tx_num c N (a + 3) 0 99).2 = true := by simpa using c3
  obtain ⟨v1, v2⟩ := q2.2 c3'
  rw [(tx_num_ok c3').1] at v1 v2
  have s3 : cW N a st = cW N (a + 5) st := s2.trans v1
  rw [if_neg c3]
  by_cases c4 : mo_kindBy (tx_at c N a) = 3
  · have ft : f = true := by rw [hf]; exact decide_eq_true (kd.mp c4)
    subst ft
    rw [if_pos c4]
    have q3 : qP N st (a + 5) (tx_num c N (a + 5) 0 99) := cq_num (i := 2) h true hf (by decide) (by omega) (Or.inr t10) 0 99 t8 t9
    refine ⟨⟨fun q => ⟨s3.trans (q3.1 q).1, (q3.1 q).2⟩, fun q => ⟨s3.trans (q3.2 q).1, (q3.2 q).2⟩⟩, fun q => ?_⟩
    have z := (q3.2 q).2
    rw [(tx_num_ok q).1] at z ⊢
    refine ⟨?_, fun y => ?_⟩
    · rw [show a + 5 + 2 = a + 7 from rfl, pc_r h true hf (by omega)]; exact t11
    · rw [show a + 5 + 2 = a + 7 from rfl, pf_r h true hf (by omega) (by omega), if_pos (by decide)]
  · have ft : f = false := by rw [hf]; exact decide_eq_false (fun q => c4 (kd.mpr q))
    subst ft
    rw [if_neg c4]
    obtain ⟨i1, i2⟩ := cq_waves h hf 3 0 (by omega) (by omega)
    exact ⟨⟨fun q => ⟨s3.trans (i1.1 q).1, (i1.1 q).2⟩, fun q => ⟨s3.trans (i1.2 q).1, (i1.2 q).2⟩⟩, fun q => i2 q (by omega) (by omega)⟩
theorem tx_num_N {c : Nat → Int32} {N j : Nat} {lo hi : Int32} (hj : j ≤ N) : (tx_num c N j lo hi).1 ≤ N := by
  have fin : ∀ k, tx_fig c N k = true → k < N := fun k q => by
    apply Classical.not_not.mp
    intro z
    rw [tx_fig, tx_at, if_pos (by omega)] at q
    exact absurd q (by decide)
  unfold tx_num
  by_cases c1 : tx_fig c N j = false
  · rw [if_pos c1]; exact hj
  have f1 := fin j (by simpa using c1)
  rw [if_neg c1]
  by_cases c2 : hi / 10 < tx_at c N j - 48
  · rw [if_pos c2]; exact hj
  rw [if_neg c2]
  by_cases c4 : tx_fig c N (j + 1) = false
  · rw [if_pos c4]; exact f1
  have f2 := fin (j + 1) (by simpa using c4)
  rw [if_neg c4]
  by_cases c5 : mo_within (tx_nm c N j) lo hi = 0
  · rw [if_pos c5]; exact f1
  rw [if_neg c5]; exact f2
theorem tx_wave_N {c : Nat → Int32} {N j : Nat} (hj : j ≤ N) : (tx_wave c N j).1 ≤ N := by
  unfold tx_wave
  have a1 := tx_num_N (c := c) (lo := 1) (hi := 99) hj
  by_cases c1 : (tx_num c N j 1 99).2 = false
  · rw [if_pos c1]; exact a1
  rw [if_neg c1]
  rw [(tx_num_ok (show (tx_num c N j 1 99).2 = true by simpa using c1)).1] at a1
  have a2 := tx_num_N (c := c) (lo := 0) (hi := 99) a1
  by_cases c2 : (tx_num c N (j + 2) 0 99).2 = false
  · rw [if_pos c2]; exact a2
  rw [if_neg c2]
  rw [(tx_num_ok (show (tx_num c N (j + 2) 0 99).2 = true by simpa using c2)).1] at a2
  exact tx_num_N a2
theorem tx_waves_N {c : Nat → Int32} {N : Nat} : ∀ n w j, j ≤ N → (tx_waves c N n w j).1 ≤ N := by
  intro n
  induction n with
  | zero => intro w j hj; exact hj
  | succ n ih =>
    intro w j hj
    rw [tx_waves]
    by_cases q : ¬ w = 0 ∧ tx_fig c N j = false
    · rw [if_pos q]; exact hj
    rw [if_neg q]
    have a1 := tx_wave_N (c := c) hj
    by_cases c1 : (tx_wave c N j).2 = false
    · rw [if_pos c1]; exact a1
    · rw [if_neg c1]
      rw [tx_wave_ok (by simpa using c1)] at a1
      exact ih _ _ a1
theorem tx_port_N {c : Nat → Int32} {N n k : Nat} (hk : k ≤ N) (_h : (tx_port c N n k).2 = false) : (tx_port c N n k).1 ≤ N := by
  clear _h
  unfold tx_port
  by_cases c0 : mo_kindBy (tx_at c N k) = -10001
  · rw [if_pos c0]; exact hk
  rw [if_neg c0]
  by_cases c1 : mo_kindBy (tx_at c N k) = 3 ∧ n = 0
  · rw [if_pos c1]; exact hk
  rw [if_neg c1]
  have k1 : k < N := by
    apply Classical.not_not.mp
    intro z
    rw [tx_at, if_pos (by omega)] at c0
    exact c0 (by decide)
  have a1 := tx_num_N (c := c) (lo := 0) (hi := 99) (show k + 1 ≤ N by omega)
  by_cases c2 : (tx_num c N (k + 1) 0 99).2 = false
  · rw [if_pos c2]; exact a1
  rw [if_neg c2]
  rw [(tx_num_ok (show (tx_num c N (k + 1) 0 99).2 = true by simpa using c2)).1] at a1
  have a2 := tx_num_N (c := c) (lo := 0) (hi := 99) (show k + 3 ≤ N from a1)
  by_cases c3 : (tx_num c N (k + 3) 0 99).2 = false
  · rw [if_pos c3]; exact a2
  rw [if_neg c3]
  rw [(tx_num_ok (show (tx_num c N (k + 3) 0 99).2 = true by simpa using c3)).1] at a2
  by_cases c4 : mo_kindBy (tx_at c N k) = 3
  · rw [if_pos c4]; exact tx_num_N a2
  · rw [if_neg c4]; exact tx_waves_N 3 0 _ a2
/-- what a look may change -/
def sy (s s' : tt_St) : Prop := s'.2 = s.2 ∧ ∀ o f, ¬ (o = 1 ∧ (f = 2 ∨ f = 3)) → tt_I s' o f = tt_I s o f
theorem cq_rest {c : Nat → Int32} {N : Nat} : ∀ (m n x a : Nat) (st : tt_St), n + 1 + m = 4 → cx st c N a n → x ≤ N → ¬ pg_canEndAhead st (nI x) = 0 → (x < N → pg_fits st (nI x) = 0) → (cW N x st).1 = nI (tx_rest c N m (n + 1) x).1 ∧ (tx_rest c N m (n + 1) x).1 ≤ N ∧ sy st (cW N x st).2 ∧ (((tx_rest c N m (n + 1) x).2.1 = true ∧ (tx_rest c N m (n + 1) x).1 = N) ↔ ((tx_rest c N m (n + 1) x).1 = N ∧ ¬ pg_canEndAhead (cW N x st).2 (nI N) = 0)) := by
  intro m
  have stop : ∀ (n x a : Nat) (st : tt_St), cx st c N a n → x ≤ N → ¬ pg_canEndAhead st (nI x) = 0 → (x < N → cW N x st = (nI x, st)) → (cW N x st).1 = nI ((x, true, n + 1) : Nat × Bool × Nat).1 ∧ ((x, true, n + 1) : Nat × Bool × Nat).1 ≤ N ∧ sy st (cW N x st).2 ∧ ((((x, true, n + 1) : Nat × Bool × Nat).2.1 = true ∧ ((x, true, n + 1) : Nat × Bool × Nat).1 = N) ↔ (((x, true, n + 1) : Nat × Bool × Nat).1 = N ∧ ¬ pg_canEndAhead (cW N x st).2 (nI N) = 0)) := by
    intro n x a st h hx he hb
    have e : cW N x st = (nI x, st) := by
      by_cases xN : x = N
      · rw [xN]; exact cW_end h
      · exact hb (by omega)
    rw [e]
    refine ⟨Eq.refl _, hx, ⟨Eq.refl _, fun _ _ _ => Eq.refl _⟩, fun q => ⟨q.2, ?_⟩, fun q => ⟨Eq.refl _, q.1⟩⟩
    have : x = N := q.2
    rw [← this]; exact he
  induction m with
  | zero =>
    intro n x a st hn h hx he hb
    rw [tx_rest]
    exact stop n x a st h hx he (fun q => cW_bad h q (hb q) (fun _ => Or.inr (by omega)))
  | succ m ih =>
    intro n x a st hn h hx he hb
    rw [tx_rest]
    by_cases c1 : tx_at c N x = 44
    · have xN : x < N := by
        apply Classical.not_not.mp
        intro q
        rw [tx_at, if_pos (by omega)] at c1
        exact absurd c1 (by decide)
      rw [if_pos c1, cW_comma h xN c1 (by omega) he]
      have y0 : sy st (tt_pI (tt_pI st 1 2 (nI (x + 1))) 1 3 (nI (n + 1))) := ⟨Eq.refl _, fun o f q => by rw [px_I (by omega), px_I (by omega)]⟩
      have h' : cx (tt_pI (tt_pI st 1 2 (nI (x + 1))) 1 3 (nI (n + 1))) c N (x + 1) (n + 1) := by
        obtain ⟨g1, g2, g3, g4, _⟩ := h
        exact ⟨by rw [px_I (by omega), px_I (by omega)]; exact g1, g2, g3, g4, by rw [px_I (by omega), px_I1], px_I1, by omega, by omega⟩
      generalize tt_pI (tt_pI st 1 2 (nI (x + 1))) 1 3 (nI (n + 1)) = s1 at y0 h' ⊢
      obtain ⟨k1, k2⟩ := cq_port h'
      have k3 : (tx_port c N (n + 1) (x + 1)).2 = false → (tx_port c N (n + 1) (x + 1)).1 ≤ N := fun q => tx_port_N (by omega) q
      by_cases c2 : (tx_port c N (n + 1) (x + 1)).2 = false
      · rw [if_pos c2]
        obtain ⟨m1, m2⟩ := k1.1 c2
        rw [m1]
        refine ⟨Eq.refl _, k3 c2, y0, fun q => Bool.noConfusion q.1, fun q => absurd (m2 q.1) q.2⟩
      · rw [if_neg c2]
        have c2' : (tx_port c N (n + 1) (x + 1)).2 = true := by simpa using c2
        obtain ⟨m1, m2⟩ := k1.2 c2'
        rw [m1]
        obtain ⟨u1, u2⟩ := k2 c2'
        obtain ⟨v1, v2, v3, v4⟩ := ih (n + 1) (tx_port c N (n + 1) (x + 1)).1 (x + 1) s1 (by omega) h' m2 u1 u2
        exact ⟨v1, v2, ⟨v3.1.trans y0.1, fun o f q => (v3.2 o f q).trans (y0.2 o f q)⟩, v4⟩
    · rw [if_neg c1]
      exact stop n x a st h hx he (fun q => cW_bad h q (hb q) (fun z => absurd z c1))

/-! ports: the class reads a port -/
theorem tx_port_ok {c : Nat → Int32} {N n k : Nat} (h : (tx_port c N n k).2 = true) : ¬ mo_kindBy (tx_at c N k) = -10001 ∧ ¬ (mo_kindBy (tx_at c N k) = 3 ∧ n = 0) ∧ (tx_num c N (k + 1) 0 99).2 = true ∧ (tx_num c N (k + 3) 0 99).2 = true ∧ (mo_kindBy (tx_at c N k) = 3 → (tx_num c N (k + 5) 0 99).2 = true ∧ (tx_port c N n k).1 = k + 7) ∧ (¬ mo_kindBy (tx_at c N k) = 3 → (tx_waves c N 3 0 (k + 5)).2 = true ∧ (tx_port c N n k).1 = (tx_waves c N 3 0 (k + 5)).1) := by
  unfold tx_port at h ⊢
  by_cases c0 : mo_kindBy (tx_at c N k) = -10001
  · rw [if_pos c0] at h; exact Bool.noConfusion h
  rw [if_neg c0] at h ⊢
  by_cases c1 : mo_kindBy (tx_at c N k) = 3 ∧ n = 0
  · rw [if_pos c1] at h; exact Bool.noConfusion h
  rw [if_neg c1] at h ⊢
  by_cases c2 : (tx_num c N (k + 1) 0 99).2 = false
  · rw [if_pos c2, c2] at h; exact Bool.noConfusion h
  rw [if_neg c2] at h ⊢
  by_cases c3 : (tx_num c N (k + 3) 0 99).2 = false
  · rw [if_pos c3, c3] at h; exact Bool.noConfusion h
  rw [if_neg c3] at h ⊢
  refine ⟨c0, c1, by simpa using c2, by simpa using c3, fun c4 => ?_, fun c4 => ?_⟩
  · rw [if_pos c4] at h ⊢; exact ⟨h, (tx_num_ok h).1⟩
  · rw [if_neg c4] at h ⊢; exact ⟨h, Eq.refl _⟩
/-- a port's numbers -/
def tx_f (c : Nat → Int32) (N k f : Nat) : Int32 := if f = 0 then mo_kindBy (tx_at c N k) else if f = 1 then tx_nm c N (k + 1) else if f = 2 then tx_nm c N (k + 3) else if f = 3 then (if mo_kindBy (tx_at c N k) = 3 then tx_nm c N (k + 5) else 50) else if f = 4 then 31 else nI (tx_M c N k)
theorem cr_port {st : tt_St} {c : Nat → Int32} {N n k o : Nat} (ho : 9 ≤ o ∧ o < 17) (hN : N ≤ 96) (h1 : tt_I st 1 1 = nI N) (hA : ∀ j, j < N → tt_A st 2 j = c j) (hr : ∀ j, j < N → 32 ≤ (c j).toInt ∧ (c j).toInt ≤ 126) (hok : (tx_port c N n k).2 = true) (hend : (tx_port c N n k).1 = N ∨ tx_at c N (tx_port c N n k).1 = 44) (hxN : (tx_port c N n k).1 ≤ N) :
    (pg_readPort st (nI k) o).1 = nI (tx_port c N n k).1 ∧ (pg_readPort st (nI k) o).2.2 = st.2 ∧ ∀ o' f, tt_I (pg_readPort st (nI k) o).2 o' f = (if o' = o ∧ (f < 5 ∨ f = 6) then tx_f c N k f else if tt_wv o 0 ≤ o' ∧ o' < tt_wv o (tx_M c N k) ∧ f < 3 then tx_nm c N (k + 5 + 6 * (o' - tt_wv o 0) + 2 * f) else tt_I st o' f) := by
  obtain ⟨p1, p2, p3, p4, p5, p6⟩ := tx_port_ok hok
  have f3 := tx_num_ok p3
  have f4 := tx_num_ok p4
  have l1 := fg_lt f3.2.2.2.1
  have l3 := fg_lt f4.2.2.2.1
  have e0 : tt_A st 2 k = tx_at c N k := by rw [hA k (by omega), tx_at, if_neg (by omega)]
  have rk : 0 ≤ (tx_at c N k).toInt ∧ (tx_at c N k).toInt ≤ 126 := by rw [tx_at, if_neg (by omega)]; have := hr k (by omega); omega
  have ek := (kd_of rk).2.2 p1
  have x1 : nI k + 1 = nI (k + 1) := nI_add k 1
  have x3 : nI k + 3 = nI (k + 3) := nI_add k 3
  have x5 : nI k + 5 = nI (k + 5) := nI_add k 5
  have x7 : nI k + 7 = nI (k + 7) := nI_add k 7
  rw [pg_readPort, nI_clamp (by omega), e0, ek, x1, x3, x5, x7, cn_at h1 hN hA (by omega), cn_at h1 hN hA (by omega)]
  by_cases c4 : mo_kindBy (tx_at c N k) = 3
  · obtain ⟨q5, q7⟩ := p5 c4
    have l5 := fg_lt (tx_num_ok q5).2.2.2.1
    have hM : tx_M c N k = 0 := by rw [tx_M, if_pos c4]
    rw [if_pos c4, cn_at h1 hN hA (by omega), q7, hM]
    refine ⟨Eq.refl _, Eq.refl _, fun o' f => ?_⟩
    show tt_I (po_begin st o _ _ _ _) o' f = _
    rw [bg_I]
    by_cases q : o' = o ∧ (f < 5 ∨ f = 6)
    · have z : o' = o ∧ (f < 4 ∨ f = 4 ∨ f = 6) := by omega
      rw [if_pos z, if_pos q, tx_f, hM, if_pos c4]; rfl
    · have z : ¬ (o' = o ∧ (f < 4 ∨ f = 4 ∨ f = 6)) := by omega
      rw [if_neg z, if_neg q, if_neg (by omega)]
  · obtain ⟨q5, q7⟩ := p6 c4
    obtain ⟨w1, w2, w3⟩ := tx_waves_ok 3 0 (k + 5) q5
    have hb := tx_many_b (c := c) (N := N) 3 0 (k + 5)
    have hM : tx_M c N k = tx_many c N 3 0 (k + 5) := by rw [tx_M, if_neg c4]
    rw [w1] at q7
    rw [Nat.sub_zero, ← hM] at q7
    rw [← hM] at hb w3
    rw [q7] at hend hxN ⊢
    rw [if_neg c4]
    have bI : ∀ o' f, tt_I (po_begin st o (mo_kindBy (tx_at c N k)) (tx_nm c N (k + 1)) (tx_nm c N (k + 3)) 50) o' f = _ := fun o' f => bg_I
    have b2 : (po_begin st o (mo_kindBy (tx_at c N k)) (tx_nm c N (k + 1)) (tx_nm c N (k + 3)) 50).2 = st.2 := rfl
    generalize po_begin st o (mo_kindBy (tx_at c N k)) (tx_nm c N (k + 1)) (tx_nm c N (k + 3)) 50 = u at bI b2 ⊢
    have n1 : ¬ (1 = o ∧ (1 < 4 ∨ 1 = 4 ∨ 1 = 6)) := by omega
    obtain ⟨i1, i2, i3⟩ := cr_waves (c := c) (N := N) (o := o) (j := k + 5) (M := tx_M c N k) (a1 := nI k) ho hN (by omega) hxN hend (fun v hv => by have := w3 v (by omega) hv; rw [Nat.sub_zero] at this; exact this) (tx_M c N k) 0 17 u (by omega) (by omega) (by rw [bI, if_neg n1, h1]) (fun j hj => by
      have : tt_A u 2 j = tt_A st 2 j := congrFun (congrFun (congrArg Prod.snd b2) 2) j
      rw [this, hA j hj]) (by rw [bI, if_pos (by omega)]; rfl)
    rw [Nat.mul_zero, Nat.add_zero] at i1 i2 i3
    refine ⟨i1, i2.trans b2, fun o' f => ?_⟩
    show tt_I (pg_readPort_l71 (nI k) o 17 (nI (k + 5)) u).2 o' f = _
    rw [i3]
    by_cases q6 : o' = o ∧ f = 6
    · have z : o' = o ∧ (f < 5 ∨ f = 6) := by omega
      rw [if_pos q6, if_pos z, q6.2]; rfl
    rw [if_neg q6]
    have W0 : tt_wv o 0 = 25 + 3 * (o - 9) + 0 := rfl
    by_cases q : o' = o ∧ (f < 5 ∨ f = 6)
    · have z1 : ¬ (tt_wv o 0 ≤ o' ∧ o' < tt_wv o (tx_M c N k) ∧ f < 3) := by omega
      have z2 : o' = o ∧ (f < 4 ∨ f = 4 ∨ f = 6) := by omega
      rw [if_neg z1, if_pos q, bI, if_pos z2, tx_f, if_neg c4]
      have f6 : f = 0 ∨ f = 1 ∨ f = 2 ∨ f = 3 ∨ f = 4 := by omega
      rcases f6 with rfl | rfl | rfl | rfl | rfl <;> rfl
    · rw [if_neg q]
      by_cases q2 : tt_wv o 0 ≤ o' ∧ o' < tt_wv o (tx_M c N k) ∧ f < 3
      · rw [if_pos q2, if_pos q2]
      · have z2 : ¬ (o' = o ∧ (f < 4 ∨ f = 4 ∨ f = 6)) := by omega
        rw [if_neg q2, if_neg q2, bI, if_neg z2]

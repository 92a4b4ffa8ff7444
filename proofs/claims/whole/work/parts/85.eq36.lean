/-! ports: the reference's state behind its copies -/
theorem mp_A (st : tt_St) {n : Nat} (hn : n ≤ 4) : (mo_ports_l102 36 0 (mo_ports_l26 n n 0 st)).1 = st.1 ∧ ∀ a i, tt_A (mo_ports_l102 36 0 (mo_ports_l26 n n 0 st)) a i = (if 50 ≤ a ∧ a < 55 ∧ i < n then tt_A st (a + 11) i else if a = 55 ∧ i < 36 then tt_A st 66 i else tt_A st a i) := by
  obtain ⟨a1, _, a2⟩ := cl_ports_l26 (m := n) n 0 st (by omega)
  generalize mo_ports_l26 n n 0 st = s1 at a1 a2 ⊢
  obtain ⟨b1, _, b2⟩ := cl_ports_l102 36 0 s1 (by omega)
  refine ⟨b1.trans a1, fun a i => ?_⟩
  rw [b2]
  by_cases q2 : a = 55 ∧ i < 36
  · have n2 : ¬ (50 ≤ a ∧ a < 55 ∧ i < n) := by omega
    have n3 : a = 55 ∧ 0 ≤ i ∧ i < 0 + 36 := by omega
    have n5 : ¬ (50 ≤ 66 ∧ 66 < 50 + 5 ∧ 0 ≤ i ∧ i < 0 + n) := by omega
    rw [if_pos n3, if_neg n2, if_pos q2, a2, if_neg n5]
  · have n3 : ¬ (a = 55 ∧ 0 ≤ i ∧ i < 0 + 36) := by omega
    rw [if_neg n3, a2]
    by_cases q1 : 50 ≤ a ∧ a < 55 ∧ i < n
    · have n5 : 50 ≤ a ∧ a < 50 + 5 ∧ 0 ≤ i ∧ i < 0 + n := by omega
      rw [if_pos n5, if_pos q1, show a + 61 - 50 = a + 11 from by omega]
    · have n5 : ¬ (50 ≤ a ∧ a < 50 + 5 ∧ 0 ≤ i ∧ i < 0 + n) := by omega
      rw [if_neg n5, if_neg q1, if_neg q2]

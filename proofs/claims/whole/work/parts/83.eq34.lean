/-! ports: the reference's copies -/
theorem cl_ports_l26 {m : Nat} : ∀ (n j : Nat) (st : tt_St), j + n < 100 → (mo_ports_l26 m n j st).1 = st.1 ∧ (mo_ports_l26 m n j st).2.1 = st.2.1 ∧ ∀ a i, tt_A (mo_ports_l26 m n j st) a i = (if 50 ≤ a ∧ a < 50 + 5 ∧ j ≤ i ∧ i < j + n then tt_A st (a + 61 - 50) i else tt_A st a i) := by
  intro n
  induction n with
  | zero => intro j st _; exact ⟨rfl, rfl, fun a i => by rw [if_neg (by omega)]; rfl⟩
  | succ n ih =>
    intro j st hj
    rw [mo_ports_l26, nI_clamp (by omega)]
    have hS := cp_5 (st := st) (x := 50) (y := 61) (j := j) (by omega)
    simp only [Nat.reduceAdd] at hS
    refine ⟨(ih (j + 1) _ (by omega)).1, (ih (j + 1) _ (by omega)).2.1, fun a i => ((ih (j + 1) _ (by omega)).2.2 a i).trans ?_⟩
    rw [hS, hS]
    by_cases c : 50 ≤ a ∧ a < 50 + 5 ∧ j + 1 ≤ i ∧ i < j + 1 + n
    · have n1 : 50 ≤ a ∧ a < 50 + 5 ∧ j ≤ i ∧ i < j + (n + 1) := by omega
      have n2 : ¬ (50 ≤ a + 61 - 50 ∧ a + 61 - 50 < 55 ∧ i = j) := by omega
      rw [if_pos c, if_pos n1, if_neg n2]
    · rw [if_neg c]
      by_cases c2 : 50 ≤ a ∧ a < 55 ∧ i = j
      · have n1 : 50 ≤ a ∧ a < 50 + 5 ∧ j ≤ i ∧ i < j + (n + 1) := by omega
        rw [if_pos c2, if_pos n1, c2.2.2]
      · have n1 : ¬ (50 ≤ a ∧ a < 50 + 5 ∧ j ≤ i ∧ i < j + (n + 1)) := by omega
        rw [if_neg c2, if_neg n1]
theorem cl_ports_l102 : ∀ (n j : Nat) (st : tt_St), j + n < 100 → (mo_ports_l102 n j st).1 = st.1 ∧ (mo_ports_l102 n j st).2.1 = st.2.1 ∧ ∀ a i, tt_A (mo_ports_l102 n j st) a i = (if a = 55 ∧ j ≤ i ∧ i < j + n then tt_A st 66 i else tt_A st a i) := by
  intro n
  induction n with
  | zero => intro j st _; exact ⟨rfl, rfl, fun a i => by rw [if_neg (by omega)]; rfl⟩
  | succ n ih =>
    intro j st hj
    rw [mo_ports_l102, nI_clamp (by omega)]
    refine ⟨(ih (j + 1) _ (by omega)).1, (ih (j + 1) _ (by omega)).2.1, fun a i => ((ih (j + 1) _ (by omega)).2.2 a i).trans ?_⟩
    by_cases c : a = 55 ∧ j + 1 ≤ i ∧ i < j + 1 + n
    · have n1 : a = 55 ∧ j ≤ i ∧ i < j + (n + 1) := by omega
      rw [if_pos c, if_pos n1, px_A (by omega)]
    · rw [if_neg c]
      by_cases c2 : a = 55 ∧ i = j
      · have n1 : a = 55 ∧ j ≤ i ∧ i < j + (n + 1) := by omega
        rw [if_pos n1, c2.1, c2.2, px_A1]
      · have n1 : ¬ (a = 55 ∧ j ≤ i ∧ i < j + (n + 1)) := by omega
        rw [if_neg n1, px_A c2]

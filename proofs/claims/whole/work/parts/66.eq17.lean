/-! the reference's image and its way back -/
theorem cl_image_l34 : ∀ (n j : Nat) (st : tt_St), j + n < 100 → (mo_image_l34 n j st).1 = st.1 ∧ (mo_image_l34 n j st).2.1 = st.2.1 ∧ ∀ a i, tt_A (mo_image_l34 n j st) a i = (if 67 ≤ a ∧ a < 67 + 5 ∧ j ≤ i ∧ i < j + n then tt_A st (a + 50 - 67) i else tt_A st a i) := by
  intro n
  induction n with
  | zero => intro j st _; exact ⟨rfl, rfl, fun a i => by rw [if_neg (by omega)]; rfl⟩
  | succ n ih =>
    intro j st hj
    rw [mo_image_l34, nI_clamp (by omega)]
    have hS := cp_5 (st := st) (x := 67) (y := 50) (j := j) (by omega)
    simp only [Nat.reduceAdd] at hS
    refine ⟨(ih (j + 1) _ (by omega)).1, (ih (j + 1) _ (by omega)).2.1, fun a i => ((ih (j + 1) _ (by omega)).2.2 a i).trans ?_⟩
    rw [hS, hS]
    by_cases c : 67 ≤ a ∧ a < 67 + 5 ∧ j + 1 ≤ i ∧ i < j + 1 + n
    · have n1 : 67 ≤ a ∧ a < 67 + 5 ∧ j ≤ i ∧ i < j + (n + 1) := by omega
      have n2 : ¬ (67 ≤ a + 50 - 67 ∧ a + 50 - 67 < 72 ∧ i = j) := by omega
      rw [if_pos c, if_pos n1, if_neg n2]
    · rw [if_neg c]
      by_cases c2 : 67 ≤ a ∧ a < 72 ∧ i = j
      · have n1 : 67 ≤ a ∧ a < 67 + 5 ∧ j ≤ i ∧ i < j + (n + 1) := by omega
        rw [if_pos c2, if_pos n1, c2.2.2]
      · have n1 : ¬ (67 ≤ a ∧ a < 67 + 5 ∧ j ≤ i ∧ i < j + (n + 1)) := by omega
        rw [if_neg c2, if_neg n1]
theorem cl_image_l107 : ∀ (n j : Nat) (st : tt_St), j + n < 100 → (mo_image_l107 n j st).1 = st.1 ∧ (mo_image_l107 n j st).2.1 = st.2.1 ∧ ∀ a i, tt_A (mo_image_l107 n j st) a i = (if a = 72 ∧ j ≤ i ∧ i < j + n then tt_A st 55 i else tt_A st a i) := by
  intro n
  induction n with
  | zero => intro j st _; exact ⟨rfl, rfl, fun a i => by rw [if_neg (by omega)]; rfl⟩
  | succ n ih =>
    intro j st hj
    rw [mo_image_l107, nI_clamp (by omega)]
    refine ⟨(ih (j + 1) _ (by omega)).1, (ih (j + 1) _ (by omega)).2.1, fun a i => ((ih (j + 1) _ (by omega)).2.2 a i).trans ?_⟩
    by_cases c : a = 72 ∧ j + 1 ≤ i ∧ i < j + 1 + n
    · have n1 : a = 72 ∧ j ≤ i ∧ i < j + (n + 1) := by omega
      rw [if_pos c, if_pos n1, px_A (by omega)]
    · rw [if_neg c]
      by_cases c2 : a = 72 ∧ i = j
      · have n1 : a = 72 ∧ j ≤ i ∧ i < j + (n + 1) := by omega
        rw [if_pos n1, c2.1, c2.2, px_A1]
      · have n1 : ¬ (a = 72 ∧ j ≤ i ∧ i < j + (n + 1)) := by omega
        rw [if_neg n1, px_A c2]
theorem cl_image_l133 : ∀ (n j : Nat) (st : tt_St), j + n < 100 → (mo_image_l133 n j st).1 = st.1 ∧ (mo_image_l133 n j st).2.1 = st.2.1 ∧ ∀ a i, tt_A (mo_image_l133 n j st) a i = (if 73 ≤ a ∧ a < 73 + 3 ∧ j ≤ i ∧ i < j + n then tt_A st (a + 57 - 73) i else tt_A st a i) := by
  intro n
  induction n with
  | zero => intro j st _; exact ⟨rfl, rfl, fun a i => by rw [if_neg (by omega)]; rfl⟩
  | succ n ih =>
    intro j st hj
    rw [mo_image_l133, nI_clamp (by omega)]
    have hS := cp_3 (st := st) (x := 73) (y := 57) (j := j) (by omega)
    simp only [Nat.reduceAdd] at hS
    refine ⟨(ih (j + 1) _ (by omega)).1, (ih (j + 1) _ (by omega)).2.1, fun a i => ((ih (j + 1) _ (by omega)).2.2 a i).trans ?_⟩
    rw [hS, hS]
    by_cases c : 73 ≤ a ∧ a < 73 + 3 ∧ j + 1 ≤ i ∧ i < j + 1 + n
    · have n1 : 73 ≤ a ∧ a < 73 + 3 ∧ j ≤ i ∧ i < j + (n + 1) := by omega
      have n2 : ¬ (73 ≤ a + 57 - 73 ∧ a + 57 - 73 < 76 ∧ i = j) := by omega
      rw [if_pos c, if_pos n1, if_neg n2]
    · rw [if_neg c]
      by_cases c2 : 73 ≤ a ∧ a < 76 ∧ i = j
      · have n1 : 73 ≤ a ∧ a < 73 + 3 ∧ j ≤ i ∧ i < j + (n + 1) := by omega
        rw [if_pos c2, if_pos n1, c2.2.2]
      · have n1 : ¬ (73 ≤ a ∧ a < 73 + 3 ∧ j ≤ i ∧ i < j + (n + 1)) := by omega
        rw [if_neg c2, if_neg n1]
theorem cl_restore_l32 : ∀ (n j : Nat) (st : tt_St), j + n < 100 → (mo_restore_l32 n j st).1 = st.1 ∧ (mo_restore_l32 n j st).2.1 = st.2.1 ∧ ∀ a i, tt_A (mo_restore_l32 n j st) a i = (if 50 ≤ a ∧ a < 50 + 5 ∧ j ≤ i ∧ i < j + n then tt_A st (a + 67 - 50) i else tt_A st a i) := by
  intro n
  induction n with
  | zero => intro j st _; exact ⟨rfl, rfl, fun a i => by rw [if_neg (by omega)]; rfl⟩
  | succ n ih =>
    intro j st hj
    rw [mo_restore_l32, nI_clamp (by omega)]
    have hS := cp_5 (st := st) (x := 50) (y := 67) (j := j) (by omega)
    simp only [Nat.reduceAdd] at hS
    refine ⟨(ih (j + 1) _ (by omega)).1, (ih (j + 1) _ (by omega)).2.1, fun a i => ((ih (j + 1) _ (by omega)).2.2 a i).trans ?_⟩
    rw [hS, hS]
    by_cases c : 50 ≤ a ∧ a < 50 + 5 ∧ j + 1 ≤ i ∧ i < j + 1 + n
    · have n1 : 50 ≤ a ∧ a < 50 + 5 ∧ j ≤ i ∧ i < j + (n + 1) := by omega
      have n2 : ¬ (50 ≤ a + 67 - 50 ∧ a + 67 - 50 < 55 ∧ i = j) := by omega
      rw [if_pos c, if_pos n1, if_neg n2]
    · rw [if_neg c]
      by_cases c2 : 50 ≤ a ∧ a < 55 ∧ i = j
      · have n1 : 50 ≤ a ∧ a < 50 + 5 ∧ j ≤ i ∧ i < j + (n + 1) := by omega
        rw [if_pos c2, if_pos n1, c2.2.2]
      · have n1 : ¬ (50 ≤ a ∧ a < 50 + 5 ∧ j ≤ i ∧ i < j + (n + 1)) := by omega
        rw [if_neg c2, if_neg n1]
theorem cl_restore_l105 : ∀ (n j : Nat) (st : tt_St), j + n < 100 → (mo_restore_l105 n j st).1 = st.1 ∧ (mo_restore_l105 n j st).2.1 = st.2.1 ∧ ∀ a i, tt_A (mo_restore_l105 n j st) a i = (if a = 55 ∧ j ≤ i ∧ i < j + n then tt_A st 72 i else tt_A st a i) := by
  intro n
  induction n with
  | zero => intro j st _; exact ⟨rfl, rfl, fun a i => by rw [if_neg (by omega)]; rfl⟩
  | succ n ih =>
    intro j st hj
    rw [mo_restore_l105, nI_clamp (by omega)]
    refine ⟨(ih (j + 1) _ (by omega)).1, (ih (j + 1) _ (by omega)).2.1, fun a i => ((ih (j + 1) _ (by omega)).2.2 a i).trans ?_⟩
    by_cases c : a = 55 ∧ j + 1 ≤ i ∧ i < j + 1 + n
    · have n1 : a = 55 ∧ j ≤ i ∧ i < j + (n + 1) := by omega
      rw [if_pos c, if_pos n1, px_A (by omega)]
    · rw [if_neg c]
      by_cases c2 : a = 55 ∧ i = j
      · have n1 : a = 55 ∧ j ≤ i ∧ i < j + (n + 1) := by omega
        rw [if_pos n1, c2.1, c2.2, px_A1]
      · have n1 : ¬ (a = 55 ∧ j ≤ i ∧ i < j + (n + 1)) := by omega
        rw [if_neg n1, px_A c2]
theorem cl_restore_l131 : ∀ (n j : Nat) (st : tt_St), j + n < 100 → (mo_restore_l131 n j st).1 = st.1 ∧ (mo_restore_l131 n j st).2.1 = st.2.1 ∧ ∀ a i, tt_A (mo_restore_l131 n j st) a i = (if 57 ≤ a ∧ a < 57 + 3 ∧ j ≤ i ∧ i < j + n then tt_A st (a + 73 - 57) i else tt_A st a i) := by
  intro n
  induction n with
  | zero => intro j st _; exact ⟨rfl, rfl, fun a i => by rw [if_neg (by omega)]; rfl⟩
  | succ n ih =>
    intro j st hj
    rw [mo_restore_l131, nI_clamp (by omega)]
    have hS := cp_3 (st := st) (x := 57) (y := 73) (j := j) (by omega)
    simp only [Nat.reduceAdd] at hS
    refine ⟨(ih (j + 1) _ (by omega)).1, (ih (j + 1) _ (by omega)).2.1, fun a i => ((ih (j + 1) _ (by omega)).2.2 a i).trans ?_⟩
    rw [hS, hS]
    by_cases c : 57 ≤ a ∧ a < 57 + 3 ∧ j + 1 ≤ i ∧ i < j + 1 + n
    · have n1 : 57 ≤ a ∧ a < 57 + 3 ∧ j ≤ i ∧ i < j + (n + 1) := by omega
      have n2 : ¬ (57 ≤ a + 73 - 57 ∧ a + 73 - 57 < 60 ∧ i = j) := by omega
      rw [if_pos c, if_pos n1, if_neg n2]
    · rw [if_neg c]
      by_cases c2 : 57 ≤ a ∧ a < 60 ∧ i = j
      · have n1 : 57 ≤ a ∧ a < 57 + 3 ∧ j ≤ i ∧ i < j + (n + 1) := by omega
        rw [if_pos c2, if_pos n1, c2.2.2]
      · have n1 : ¬ (57 ≤ a ∧ a < 57 + 3 ∧ j ≤ i ∧ i < j + (n + 1)) := by omega
        rw [if_neg c2, if_neg n1]
theorem im_A (st : tt_St) : (mo_image_l133 6 0 (mo_image_l107 36 0 (mo_image_l34 4 0 st))).1 = st.1 ∧ ∀ a i, tt_A (mo_image_l133 6 0 (mo_image_l107 36 0 (mo_image_l34 4 0 st))) a i = (if 67 ≤ a ∧ a < 72 ∧ i < 4 then tt_A st (a - 17) i else if a = 72 ∧ i < 36 then tt_A st 55 i else if 73 ≤ a ∧ a < 76 ∧ i < 6 then tt_A st (a - 16) i else tt_A st a i) := by
  obtain ⟨a1, _, a2⟩ := cl_image_l34 4 0 st (by omega)
  generalize mo_image_l34 4 0 st = s1 at a1 a2 ⊢
  obtain ⟨b1, _, b2⟩ := cl_image_l107 36 0 s1 (by omega)
  generalize mo_image_l107 36 0 s1 = s2 at b1 b2 ⊢
  obtain ⟨c1, _, c2⟩ := cl_image_l133 6 0 s2 (by omega)
  refine ⟨c1.trans (b1.trans a1), fun a i => ?_⟩
  rw [c2]
  by_cases q3 : 73 ≤ a ∧ a < 76 ∧ i < 6
  · have n1 : 73 ≤ a ∧ a < 73 + 3 ∧ 0 ≤ i ∧ i < 0 + 6 := by omega
    have n2 : ¬ (67 ≤ a ∧ a < 72 ∧ i < 4) := by omega
    have n3 : ¬ (a = 72 ∧ i < 36) := by omega
    have n4 : ¬ (a + 57 - 73 = 72 ∧ 0 ≤ i ∧ i < 0 + 36) := by omega
    have n5 : ¬ (67 ≤ a + 57 - 73 ∧ a + 57 - 73 < 67 + 5 ∧ 0 ≤ i ∧ i < 0 + 4) := by omega
    rw [if_pos n1, if_neg n2, if_neg n3, if_pos q3, b2, if_neg n4, a2, if_neg n5, show a + 57 - 73 = a - 16 from by omega]
  · have n1 : ¬ (73 ≤ a ∧ a < 73 + 3 ∧ 0 ≤ i ∧ i < 0 + 6) := by omega
    rw [if_neg n1, b2]
    by_cases q2 : a = 72 ∧ i < 36
    · have n2 : ¬ (67 ≤ a ∧ a < 72 ∧ i < 4) := by omega
      have n3 : a = 72 ∧ 0 ≤ i ∧ i < 0 + 36 := by omega
      have n5 : ¬ (67 ≤ 55 ∧ 55 < 67 + 5 ∧ 0 ≤ i ∧ i < 0 + 4) := by omega
      rw [if_pos n3, if_neg n2, if_pos q2, a2, if_neg n5]
    · have n3 : ¬ (a = 72 ∧ 0 ≤ i ∧ i < 0 + 36) := by omega
      rw [if_neg n3, a2]
      by_cases q1 : 67 ≤ a ∧ a < 72 ∧ i < 4
      · have n5 : 67 ≤ a ∧ a < 67 + 5 ∧ 0 ≤ i ∧ i < 0 + 4 := by omega
        rw [if_pos n5, if_pos q1, show a + 50 - 67 = a - 17 from by omega]
      · have n5 : ¬ (67 ≤ a ∧ a < 67 + 5 ∧ 0 ≤ i ∧ i < 0 + 4) := by omega
        rw [if_neg n5, if_neg q1, if_neg q2, if_neg q3]
theorem re_A (st : tt_St) : (mo_restore_l131 6 0 (mo_restore_l105 36 0 (mo_restore_l32 4 0 st))).1 = st.1 ∧ ∀ a i, tt_A (mo_restore_l131 6 0 (mo_restore_l105 36 0 (mo_restore_l32 4 0 st))) a i = (if 50 ≤ a ∧ a < 55 ∧ i < 4 then tt_A st (a + 17) i else if a = 55 ∧ i < 36 then tt_A st 72 i else if 57 ≤ a ∧ a < 60 ∧ i < 6 then tt_A st (a + 16) i else tt_A st a i) := by
  obtain ⟨a1, _, a2⟩ := cl_restore_l32 4 0 st (by omega)
  generalize mo_restore_l32 4 0 st = s1 at a1 a2 ⊢
  obtain ⟨b1, _, b2⟩ := cl_restore_l105 36 0 s1 (by omega)
  generalize mo_restore_l105 36 0 s1 = s2 at b1 b2 ⊢
  obtain ⟨c1, _, c2⟩ := cl_restore_l131 6 0 s2 (by omega)
  refine ⟨c1.trans (b1.trans a1), fun a i => ?_⟩
  rw [c2]
  by_cases q3 : 57 ≤ a ∧ a < 60 ∧ i < 6
  · have n1 : 57 ≤ a ∧ a < 57 + 3 ∧ 0 ≤ i ∧ i < 0 + 6 := by omega
    have n2 : ¬ (50 ≤ a ∧ a < 55 ∧ i < 4) := by omega
    have n3 : ¬ (a = 55 ∧ i < 36) := by omega
    have n4 : ¬ (a + 73 - 57 = 55 ∧ 0 ≤ i ∧ i < 0 + 36) := by omega
    have n5 : ¬ (50 ≤ a + 73 - 57 ∧ a + 73 - 57 < 50 + 5 ∧ 0 ≤ i ∧ i < 0 + 4) := by omega
    rw [if_pos n1, if_neg n2, if_neg n3, if_pos q3, b2, if_neg n4, a2, if_neg n5, show a + 73 - 57 = a + 16 from by omega]
  · have n1 : ¬ (57 ≤ a ∧ a < 57 + 3 ∧ 0 ≤ i ∧ i < 0 + 6) := by omega
    rw [if_neg n1, b2]
    by_cases q2 : a = 55 ∧ i < 36
    · have n2 : ¬ (50 ≤ a ∧ a < 55 ∧ i < 4) := by omega
      have n3 : a = 55 ∧ 0 ≤ i ∧ i < 0 + 36 := by omega
      have n5 : ¬ (50 ≤ 72 ∧ 72 < 50 + 5 ∧ 0 ≤ i ∧ i < 0 + 4) := by omega
      rw [if_pos n3, if_neg n2, if_pos q2, a2, if_neg n5]
    · have n3 : ¬ (a = 55 ∧ 0 ≤ i ∧ i < 0 + 36) := by omega
      rw [if_neg n3, a2]
      by_cases q1 : 50 ≤ a ∧ a < 55 ∧ i < 4
      · have n5 : 50 ≤ a ∧ a < 50 + 5 ∧ 0 ≤ i ∧ i < 0 + 4 := by omega
        rw [if_pos n5, if_pos q1, show a + 67 - 50 = a + 17 from by omega]
      · have n5 : ¬ (50 ≤ a ∧ a < 50 + 5 ∧ 0 ≤ i ∧ i < 0 + 4) := by omega
        rw [if_neg n5, if_neg q1, if_neg q2, if_neg q3]

/-! one port becomes another -/
theorem bg_I {st : tt_St} {o o' f : Nat} {a b c d : Int32} : tt_I (po_begin st o a b c d) o' f = (if o' = o ∧ (f < 4 ∨ f = 4 ∨ f = 6) then (if f = 0 then a else if f = 1 then b else if f = 2 then c else if f = 3 then d else if f = 4 then 31 else 0) else tt_I st o' f) := by
  unfold po_begin
  by_cases h : o' = o
  · subst h
    by_cases f0 : f = 0
    · subst f0; simp [px_I, px_I1]
    by_cases f1 : f = 1
    · subst f1; simp [px_I, px_I1]
    by_cases f2 : f = 2
    · subst f2; simp [px_I, px_I1]
    by_cases f3 : f = 3
    · subst f3; simp [px_I, px_I1]
    by_cases f4 : f = 4
    · subst f4; simp [px_I, px_I1]
    by_cases f6 : f = 6
    · subst f6; simp [px_I, px_I1]
    rw [if_neg (by omega)]
    simp [px_I, f0, f1, f2, f3, f4, f6]
  · simp [px_I, h]
theorem bg_2 {st : tt_St} {o : Nat} {a b c d : Int32} : (po_begin st o a b c d).2 = st.2 := rfl
theorem pw_2 {st : tt_St} {o : Nat} {a b c : Int32} : (po_putWave st o a b c).2 = st.2 := by
  unfold po_putWave
  by_cases h : 3 ≤ tt_I st o 6
  · rw [if_pos h]
  · rw [if_neg h]; rfl
theorem pw_I {st : tt_St} {o m : Nat} {a b c : Int32} (ho : 9 ≤ o ∧ o < 17) (hm : m < 3) (h6 : tt_I st o 6 = nI m) (o' f : Nat) : tt_I (po_putWave st o a b c) o' f = (if o' = o ∧ f = 6 then nI (m + 1) else if o' = tt_wv o m ∧ f < 3 then (if f = 0 then a else if f = 1 then b else c) else tt_I st o' f) := by
  have n3 : ¬ 3 ≤ tt_I st o 6 := by
    rw [h6, tt_le, nI_toInt (by omega), show (3 : Int32).toInt = 3 from rfl]; omega
  have hW : ¬ o = tt_wv o m := by unfold tt_wv; omega
  rw [po_putWave, if_neg n3, h6, nI_clamp (by omega)]
  by_cases c1 : o' = o ∧ f = 6
  · rw [if_pos c1, c1.1, c1.2, px_I1, wp_I, if_neg (by omega), h6, nI_1]
  · rw [if_neg c1, px_I c1, wp_I]
theorem pb_l {o a m : Nat} (ho : 9 ≤ o ∧ o < 17) (ha : 9 ≤ a ∧ a < 17) (hne : o ≠ a) (hm : m ≤ 3) : ∀ (n j : Nat) (st : tt_St), j + n = m → tt_I st o 6 = nI j → (po_become_l30 o a m n j st).2 = st.2 ∧ ∀ o' f, tt_I (po_become_l30 o a m n j st) o' f = (if o' = o ∧ f = 6 then nI m else if tt_wv o j ≤ o' ∧ o' < tt_wv o m ∧ f < 3 then tt_I st (o' + 3 * a - 3 * o) f else tt_I st o' f) := by
  intro n
  induction n with
  | zero =>
    intro j st hj h6
    refine ⟨rfl, fun o' f => ?_⟩
    have : j = m := by omega
    subst this
    rw [po_become_l30]
    by_cases c : o' = o ∧ f = 6
    · rw [if_pos c, c.1, c.2, h6]
    · rw [if_neg c, if_neg (by omega)]
  | succ n ih =>
    intro j st hj h6
    rw [po_become_l30, nI_clamp (by omega)]
    have hI := fun o' f => pw_I (a := tt_I st (tt_wv a j) 0) (b := tt_I st (tt_wv a j) 1) (c := tt_I st (tt_wv a j) 2) ho (by omega : j < 3) h6 o' f
    have h2 := pw_2 (st := st) (o := o) (a := tt_I st (tt_wv a j) 0) (b := tt_I st (tt_wv a j) 1) (c := tt_I st (tt_wv a j) 2)
    generalize po_putWave st o (tt_I st (tt_wv a j) 0) (tt_I st (tt_wv a j) 1) (tt_I st (tt_wv a j) 2) = s1 at hI h2 ⊢
    obtain ⟨i1, i2⟩ := ih (j + 1) s1 (by omega) (by rw [hI, if_pos ⟨rfl, rfl⟩])
    refine ⟨i1.trans h2, fun o' f => ?_⟩
    rw [i2]
    by_cases c : o' = o ∧ f = 6
    · rw [if_pos c, if_pos c]
    · rw [if_neg c, if_neg c]
      have W0 : tt_wv o j = 25 + 3 * (o - 9) + j := rfl
      have W1 : tt_wv o (j + 1) = 25 + 3 * (o - 9) + (j + 1) := rfl
      have Wm : tt_wv o m = 25 + 3 * (o - 9) + m := rfl
      have Wa : tt_wv a j = 25 + 3 * (a - 9) + j := rfl
      by_cases c1 : o' = tt_wv o j ∧ f < 3
      · have n1 : ¬ (tt_wv o (j + 1) ≤ o' ∧ o' < tt_wv o m ∧ f < 3) := by omega
        have n2 : tt_wv o j ≤ o' ∧ o' < tt_wv o m ∧ f < 3 := by omega
        rw [if_neg n1, if_pos n2, hI, if_neg c, if_pos c1, show o' + 3 * a - 3 * o = tt_wv a j from by omega]
        by_cases f0 : f = 0
        · rw [if_pos f0, f0]
        · by_cases f1 : f = 1
          · rw [if_neg f0, if_pos f1, f1]
          · have f2 : f = 2 := by omega
            rw [if_neg f0, if_neg f1, f2]
      · by_cases c2 : tt_wv o (j + 1) ≤ o' ∧ o' < tt_wv o m ∧ f < 3
        · have n2 : tt_wv o j ≤ o' ∧ o' < tt_wv o m ∧ f < 3 := by omega
          have n3 : ¬ (o' + 3 * a - 3 * o = o ∧ f = 6) := by omega
          have n4 : ¬ (o' + 3 * a - 3 * o = tt_wv o j ∧ f < 3) := by omega
          rw [if_pos c2, if_pos n2, hI, if_neg n3, if_neg n4]
        · have n2 : ¬ (tt_wv o j ≤ o' ∧ o' < tt_wv o m ∧ f < 3) := by omega
          rw [if_neg c2, if_neg n2, hI, if_neg c, if_neg c1]
/-- what becoming another port does -/
theorem pb_I {o a : Nat} {st : tt_St} (ho : 9 ≤ o ∧ o < 17) (ha : 9 ≤ a ∧ a < 17) (hne : o ≠ a) (h6 : 0 ≤ (tt_I st a 6).toInt ∧ (tt_I st a 6).toInt ≤ 3) : (po_become st o a).2 = st.2 ∧ ∀ o' f, tt_I (po_become st o a) o' f = (if o' = o ∧ (f < 5 ∨ f = 6) then tt_I st a f else if tt_wv o 0 ≤ o' ∧ o' < tt_wv o (tt_I st a 6).toNatClampNeg ∧ f < 3 then tt_I st (o' + 3 * a - 3 * o) f else tt_I st o' f) := by
  have hm : (tt_I st a 6).toNatClampNeg ≤ 3 := tt_cle h6.2
  have em : tt_I st a 6 = nI (tt_I st a 6).toNatClampNeg := (tt_nIc h6.1).symm
  rw [po_become]
  have a4 : tt_I (po_begin st o (tt_I st a 0) (tt_I st a 1) (tt_I st a 2) (tt_I st a 3)) a 4 = tt_I st a 4 := by rw [bg_I, if_neg (by omega)]
  rw [a4]
  have hI : ∀ o' f, tt_I (tt_pI (po_begin st o (tt_I st a 0) (tt_I st a 1) (tt_I st a 2) (tt_I st a 3)) o 4 (tt_I st a 4)) o' f = (if o' = o ∧ f < 5 then tt_I st a f else if o' = o ∧ f = 6 then 0 else tt_I st o' f) := fun o' f => by
    by_cases c : o' = o ∧ f = 4
    · rw [if_pos (by omega), c.1, c.2, px_I1]
    · rw [px_I c, bg_I]
      by_cases h : o' = o
      · by_cases c6 : f = 6
        · subst c6
          have n1 : ¬ (o' = o ∧ 6 < 5) := by omega
          have n2 : o' = o ∧ 6 = 6 := ⟨h, rfl⟩
          rw [if_pos ⟨h, Or.inr (Or.inr rfl)⟩, if_neg n1, if_pos n2]; rfl
        · by_cases c5 : f < 4
          · have n1 : o' = o ∧ f < 5 := ⟨h, by omega⟩
            rw [if_pos ⟨h, Or.inl c5⟩, if_pos n1]
            by_cases f0 : f = 0
            · rw [if_pos f0, f0]
            by_cases f1 : f = 1
            · rw [if_neg f0, if_pos f1, f1]
            by_cases f2 : f = 2
            · rw [if_neg f0, if_neg f1, if_pos f2, f2]
            have f3 : f = 3 := by omega
            rw [if_neg f0, if_neg f1, if_neg f2, if_pos f3, f3]
          · have n1 : ¬ (o' = o ∧ (f < 4 ∨ f = 4 ∨ f = 6)) := by omega
            have n2 : ¬ (o' = o ∧ f < 5) := by omega
            have n3 : ¬ (o' = o ∧ f = 6) := by omega
            rw [if_neg n1, if_neg n2, if_neg n3]
      · have n1 : ¬ (o' = o ∧ (f < 4 ∨ f = 4 ∨ f = 6)) := by omega
        have n2 : ¬ (o' = o ∧ f < 5) := by omega
        have n3 : ¬ (o' = o ∧ f = 6) := by omega
        rw [if_neg n1, if_neg n2, if_neg n3]
  have h2 : (tt_pI (po_begin st o (tt_I st a 0) (tt_I st a 1) (tt_I st a 2) (tt_I st a 3)) o 4 (tt_I st a 4)).2 = st.2 := rfl
  generalize tt_pI (po_begin st o (tt_I st a 0) (tt_I st a 1) (tt_I st a 2) (tt_I st a 3)) o 4 (tt_I st a 4) = s1 at hI h2 ⊢
  have n0 : ¬ (o = o ∧ 6 < 5) := by omega
  obtain ⟨l1, l2⟩ := pb_l (m := (tt_I st a 6).toNatClampNeg) ho ha hne hm (tt_I st a 6).toNatClampNeg 0 s1 (by omega) (by rw [hI, if_neg n0, if_pos ⟨rfl, rfl⟩]; rfl)
  refine ⟨l1.trans h2, fun o' f => ?_⟩
  rw [l2]
  have W0 : tt_wv o 0 = 25 + 3 * (o - 9) + 0 := rfl
  have Wm : tt_wv o (tt_I st a 6).toNatClampNeg = 25 + 3 * (o - 9) + (tt_I st a 6).toNatClampNeg := rfl
  by_cases c : o' = o ∧ f = 6
  · have n1 : o' = o ∧ (f < 5 ∨ f = 6) := by omega
    rw [if_pos c, if_pos n1, c.2, ← em]
  · rw [if_neg c]
    by_cases c1 : tt_wv o 0 ≤ o' ∧ o' < tt_wv o (tt_I st a 6).toNatClampNeg ∧ f < 3
    · have n1 : ¬ (o' = o ∧ (f < 5 ∨ f = 6)) := by omega
      have n2 : ¬ (o' + 3 * a - 3 * o = o ∧ f < 5) := by omega
      have n3 : ¬ (o' + 3 * a - 3 * o = o ∧ f = 6) := by omega
      rw [if_pos c1, if_neg n1, if_pos c1, hI, if_neg n2, if_neg n3]
    · rw [if_neg c1, if_neg c1, hI]
      by_cases c2 : o' = o ∧ f < 5
      · have n1 : o' = o ∧ (f < 5 ∨ f = 6) := by omega
        rw [if_pos c2, if_pos n1]
      · have n1 : ¬ (o' = o ∧ (f < 5 ∨ f = 6)) := by omega
        rw [if_neg c2, if_neg n1, if_neg c]

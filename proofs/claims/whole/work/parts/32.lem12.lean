theorem se_knows_in {st : tt_St} {o : Nat} {a : Int32} (hI : tb_ok st) (ho : tt_ci o = 2) (h : ¬ se_knows st o a = 0) : vp_in a 4 := by
  have h2 := hI.2.1 o ho
  have e0 : (0 : Int32).toInt = 0 := rfl
  rw [se_knows] at h
  by_cases c1 : a < 0
  · rw [if_pos c1] at h; exact absurd rfl h
  · rw [if_neg c1] at h
    by_cases c2 : tt_I st o 1 ≤ a
    · rw [if_pos c2] at h; exact absurd rfl h
    · rw [tt_lt, e0] at c1
      rw [tt_le] at c2
      exact tt_in (by omega) (by omega)
theorem po_has_in {st : tt_St} {o : Nat} {a : Int32} (hI : tb_ok st) (ho : tt_ci o = 1) (h : ¬ po_has st o a = 0) : vp_in a 3 ∧ vp_in a (Int32.toNatClampNeg (tt_I st o 6)) := by
  have h2 := hI.1 o ho
  have e0 : (0 : Int32).toInt = 0 := rfl
  rw [po_has] at h
  by_cases c1 : a < 0
  · rw [if_pos c1] at h; exact absurd rfl h
  · rw [if_neg c1] at h
    by_cases c2 : tt_I st o 6 ≤ a
    · rw [if_pos c2] at h; exact absurd rfl h
    · rw [tt_lt, e0] at c1
      rw [tt_le] at c2
      exact ⟨tt_in (by omega) (by omega), tt_in (by omega) (by rw [tt_clamp]; omega)⟩
theorem tb_within_b (a b c : Int32) : tb_within a b c = 0 ∨ tb_within a b c = 1 := by
  unfold tb_within
  exact tt_bool (Or.inl rfl) (tt_bool (Or.inl rfl) (Or.inr rfl))
theorem tb_within_1 {a b c : Int32} : ¬ tb_within a b c = 0 ↔ b.toInt ≤ a.toInt ∧ a.toInt ≤ c.toInt := by
  unfold tb_within
  by_cases h1 : a < b
  · rw [if_pos h1]; rw [tt_lt] at h1; constructor
    · intro h; exact absurd rfl h
    · intro h; omega
  · rw [if_neg h1]; rw [tt_lt] at h1
    by_cases h2 : c < a
    · rw [if_pos h2]; rw [tt_lt] at h2; constructor
      · intro h; exact absurd rfl h
      · intro h; omega
    · rw [if_neg h2]; rw [tt_lt] at h2; constructor
      · intro _; omega
      · intro _; decide
theorem tb_within_in {a c : Int32} {n : Nat} (hc : c.toInt < n) (h : ¬ tb_within a 0 c = 0) : vp_in a n := by
  have h1 := tb_within_1.mp h
  have h0 : (0 : Int32).toInt = 0 := rfl
  exact tt_in (by omega) (by omega)
/-- the mask of a round -/
theorem tt_m63 (x : Int32) : 0 ≤ (x &&& 63).toInt ∧ (x &&& 63).toInt ≤ 63 := by
  obtain ⟨j, h1, h2⟩ := pk_andE x (m := 63) 6 (by decide)
  rw [h2, nI_toInt (by omega)]
  omega
theorem tt_fold (x : Int32) : 0 ≤ (if (x &&& 63) ≤ 32 then (x &&& 63) else (64 - (x &&& 63)) : Int32).toInt ∧ (if (x &&& 63) ≤ 32 then (x &&& 63) else (64 - (x &&& 63)) : Int32).toInt ≤ 32 := by
  have h := tt_m63 x
  have e32 : (32 : Int32).toInt = 32 := rfl
  have e64 : (64 : Int32).toInt = 64 := rfl
  by_cases c : (x &&& 63) ≤ 32
  · rw [if_pos c]; rw [tt_le, e32] at c; omega
  · rw [if_neg c]; rw [tt_le, e32] at c
    rw [tt_sub] <;> rw [e64] <;> omega
theorem tt_f1 {x : Int32} (h : (if (x &&& 63) ≤ 32 then (x &&& 63) else (64 - (x &&& 63)) : Int32) ≤ 16) : vp_in (if (x &&& 63) ≤ 32 then (x &&& 63) else (64 - (x &&& 63)) : Int32) 17 := by
  have h1 := tt_fold x
  have e : (16 : Int32).toInt = 16 := rfl
  rw [tt_le, e] at h
  exact tt_in h1.1 (by omega)
theorem tt_f2 {x : Int32} (h : ¬ (if (x &&& 63) ≤ 32 then (x &&& 63) else (64 - (x &&& 63)) : Int32) ≤ 16) : vp_in (32 - (if (x &&& 63) ≤ 32 then (x &&& 63) else (64 - (x &&& 63)) : Int32)) 17 := by
  have h1 := tt_fold x
  have e : (16 : Int32).toInt = 16 := rfl
  have e32 : (32 : Int32).toInt = 32 := rfl
  rw [tt_le, e] at h
  generalize (if (x &&& 63) ≤ 32 then (x &&& 63) else (64 - (x &&& 63)) : Int32) = f at *
  have e2 : (32 - f).toInt = 32 - f.toInt := by rw [tt_sub] <;> rw [e32] <;> omega
  exact tt_in (by omega) (by omega)

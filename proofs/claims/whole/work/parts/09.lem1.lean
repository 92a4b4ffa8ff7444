theorem mo_within_b (a b c : Int32) : mo_within a b c = 0 ∨ mo_within a b c = 1 := by
  unfold mo_within
  exact tt_bool (Or.inl rfl) (tt_bool (Or.inl rfl) (Or.inr rfl))
theorem mo_within_1 {a b c : Int32} : ¬ mo_within a b c = 0 ↔ b.toInt ≤ a.toInt ∧ a.toInt ≤ c.toInt := by
  unfold mo_within
  by_cases h1 : a < b
  · rw [if_pos h1]; rw [tt_lt] at h1; constructor
    · intro h; exact absurd rfl h
    · intro h; omega
  · rw [if_neg h1]; rw [tt_lt] at h1
    by_cases h2 : c < a
    · rw [if_pos h2]; rw [tt_lt] at h2; constructor
      · intro h; exact absurd rfl h
      · intro h; omega
    · rw [if_neg h2]; rw [tt_lt] at h2; constructor
      · intro _; omega
      · intro _; decide
theorem mo_could_b (a b : Int32) : mo_could a b = 0 ∨ mo_could a b = 1 := by
  unfold mo_could
  repeat (first | exact Or.inl rfl | exact Or.inr rfl | refine tt_bool ?_ ?_)
theorem mo_isIn_b (a b : Int32) : mo_isIn a b = 0 ∨ mo_isIn a b = 1 := by
  unfold mo_isIn
  exact tt_bool (by first | exact Or.inl rfl | exact Or.inr rfl) (by first | exact Or.inl rfl | exact Or.inr rfl)
/-- what the reference's numbers keep to -/
def mo_ok (st : tt_St) : Prop := (0 ≤ (tt_I st 49 1).toInt ∧ (tt_I st 49 1).toInt ≤ 4) ∧ (0 ≤ (tt_I st 49 9).toInt ∧ (tt_I st 49 9).toInt ≤ 6) ∧ (0 ≤ (tt_I st 49 13).toInt ∧ (tt_I st 49 13).toInt ≤ 96) ∧ (∀ p, p < 4 → 0 ≤ (tt_A st 54 p).toInt ∧ (tt_A st 54 p).toInt ≤ 3)
def mo_pl (st : tt_St) : Prop := 0 ≤ (tt_I st 49 13).toInt ∧ (tt_I st 49 13).toInt ≤ 96
theorem mo_within_in {a c : Int32} {n : Nat} (hc : c.toInt < n) (h : ¬ mo_within a 0 c = 0) : vp_in a n := by
  have h1 := mo_within_1.mp h
  have h0 : (0 : Int32).toInt = 0 := rfl
  exact tt_in (by omega) (by omega)
theorem mo_at_in {st : tt_St} {k : Int32} (hl : mo_pl st) (hk : 0 ≤ k.toInt) (h : ¬ tt_I st 49 13 ≤ k) : vp_in k 96 := by
  rw [tt_le] at h
  have := hl.2
  exact tt_in hk (by omega)

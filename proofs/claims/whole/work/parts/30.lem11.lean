/-- what the class's numbers keep to -/
def tb_ok (st : tt_St) : Prop := (∀ o, tt_ci o = 1 → 0 ≤ (tt_I st o 6).toInt ∧ (tt_I st o 6).toInt ≤ 3) ∧ (∀ o, tt_ci o = 2 → 0 ≤ (tt_I st o 1).toInt ∧ (tt_I st o 1).toInt ≤ 4) ∧ 0 ≤ (tt_I st 1 1).toInt ∧ (tt_I st 1 1).toInt ≤ 96
theorem tt_endG {y : Int32} {j : Nat} (h : 0 ≤ y.toInt) (hj : y.toNatClampNeg < j) (hj2 : j < 2147483648) : y < nI j := by
  rw [tt_lt, nI_toInt hj2]; rw [tt_clamp] at hj; omega
theorem tt_stayG {y : Int32} {j : Nat} (h : 0 ≤ y.toInt) (hj : j ≤ y.toNatClampNeg) : ¬ y < nI j := by
  have := tt_rg y
  rw [tt_clamp] at hj
  rw [tt_lt, nI_toInt (by omega)]; omega
theorem tt_keeps {c : Prop} [Decidable c] : 0 ≤ (if c then 6 else 0 : Int32).toInt ∧ (if c then 6 else 0 : Int32).toInt ≤ 6 := by
  by_cases h : c
  · rw [if_pos h]; decide
  · rw [if_neg h]; decide

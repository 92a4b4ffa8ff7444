theorem tb_place_r {st : tt_St} {a1 : Int32} : ∀ (n j : Nat) (x2 : Int32), 1 ≤ j → j + n = 145 → tb_placeOfTide_l4 st a1 n j x2 = -10001 ∨ (1 ≤ (tb_placeOfTide_l4 st a1 n j x2).toInt ∧ (tb_placeOfTide_l4 st a1 n j x2).toInt ≤ 144) := by
  intro n
  induction n with
  | zero => intro j x2 h1 h2; exact Or.inl rfl
  | succ n ih =>
    intro j x2 h1 h2
    rw [tb_placeOfTide_l4]
    let Q : Int32 → Prop := fun r => r = -10001 ∨ (1 ≤ r.toInt ∧ r.toInt ≤ 144)
    have hj : Q (nI j) := Or.inr (by rw [nI_toInt (by omega)]; omega)
    exact tt_iteQ Q (ih _ _ (by omega) (by omega)) (tt_iteQ Q hj (ih _ _ (by omega) (by omega)))
theorem tb_place_in {st : tt_St} {a1 : Int32} (h : ¬ tb_placeOfTide st a1 = -10001) : vp_in (tb_placeOfTide st a1) 344 := by
  rw [tb_placeOfTide] at h ⊢
  rcases tb_place_r (st := st) (a1 := a1) 144 1 0 (by omega) (by omega) with q | q
  · exact absurd q h
  · exact tt_in (by omega) (by omega)
theorem tb_first_r {st : tt_St} {a1 a2 : Int32} : ∀ (n j : Nat) (x3 : Int32), j + n = 144 → tb_firstOfGate_l5 st a1 a2 n j x3 = -10001 ∨ (0 ≤ (tb_firstOfGate_l5 st a1 a2 n j x3).toInt ∧ (tb_firstOfGate_l5 st a1 a2 n j x3).toInt ≤ 143) := by
  intro n
  induction n with
  | zero => intro j x3 h2; exact Or.inl rfl
  | succ n ih =>
    intro j x3 h2
    rw [tb_firstOfGate_l5]
    let Q : Int32 → Prop := fun r => r = -10001 ∨ (0 ≤ r.toInt ∧ r.toInt ≤ 143)
    have hj : Q (nI j) := Or.inr (by rw [nI_toInt (by omega)]; omega)
    have hs : ∀ x, Q (tb_firstOfGate_l5 st a1 a2 n (j + 1) x) := fun x => ih _ _ (by omega)
    repeat' (first | exact hj | exact hs _ | refine tt_iteQ Q ?_ ?_)
theorem tb_first_in {st : tt_St} {a1 a2 : Int32} (h : ¬ tb_firstOfGate st a1 a2 = -10001) : vp_in (tb_firstOfGate st a1 a2) 144 := by
  rw [tb_firstOfGate] at h ⊢
  rcases tb_first_r (st := st) (a1 := a1) (a2 := a2) 144 0 0 (by omega) with q | q
  · exact absurd q h
  · exact tt_in (by omega) (by omega)
theorem tb_trip_r {st : tt_St} {a1 a2 : Int32} : ∀ (n j : Nat) (x3 : Int32), 1 ≤ j → j + n = 201 → tb_tripFrom_l5 st a1 a2 n j x3 = -10001 ∨ (1 ≤ (tb_tripFrom_l5 st a1 a2 n j x3).toInt ∧ (tb_tripFrom_l5 st a1 a2 n j x3).toInt ≤ 200) := by
  intro n
  induction n with
  | zero => intro j x3 h1 h2; exact Or.inl rfl
  | succ n ih =>
    intro j x3 h1 h2
    rw [tb_tripFrom_l5]
    let Q : Int32 → Prop := fun r => r = -10001 ∨ (1 ≤ r.toInt ∧ r.toInt ≤ 200)
    have hj : Q (nI j) := Or.inr (by rw [nI_toInt (by omega)]; omega)
    exact tt_iteQ Q (ih _ _ (by omega) (by omega)) hj
theorem tb_leave_in {st : tt_St} {a2 : Int32} {j : Nat} (hj : j < 144) (h : ¬ tb_tripFrom st (nI j) a2 = -10001) : vp_in (nI j + tb_tripFrom st (nI j) a2) 344 := by
  rw [tb_tripFrom] at h ⊢
  rcases tb_trip_r (st := st) (a1 := nI j) (a2 := a2) 200 1 0 (by omega) (by omega) with q | q
  · exact absurd q h
  · have e := nI_toInt (n := j) (by omega)
    have e2 : (nI j + tb_tripFrom_l5 st (nI j) a2 200 1 0).toInt = (nI j).toInt + (tb_tripFrom_l5 st (nI j) a2 200 1 0).toInt := tt_add (by omega) (by omega)
    exact tt_in (by omega) (by omega)

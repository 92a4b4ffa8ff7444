theorem se_fill_l3_I {o a1 : Nat} {a2 a3 a4 : Int32} : ∀ (n j : Nat) (st : tt_St), (se_fill_l3 o a1 a2 a3 a4 n j st).1 = st.1 ∧ (se_fill_l3 o a1 a2 a3 a4 n j st).2.1 = st.2.1 ∧ ∀ k, k ≠ a1 → (se_fill_l3 o a1 a2 a3 a4 n j st).2.2 k = st.2.2 k := by
  intro n
  induction n with
  | zero => intro j st; exact ⟨rfl, rfl, fun _ _ => rfl⟩
  | succ n ih =>
    intro j st
    rw [se_fill_l3]
    obtain ⟨h1, h2, h3⟩ := ih (j + 1) (tt_pA st a1 (Int32.toNatClampNeg (nI j)) (se_heightAt st o a2 (a3 + nI j)))
    refine ⟨h1, h2, fun k hk => (h3 k hk).trans ?_⟩
    funext i
    simp [tt_pA, hk]
theorem se_fill_I {o a1 : Nat} {a2 a3 a4 : Int32} {st : tt_St} : (se_fill st o a1 a2 a3 a4).1 = st.1 := by
  rw [se_fill]
  exact (se_fill_l3_I _ _ _).1
theorem se_fill_ok {o a1 : Nat} {a2 a3 a4 : Int32} {st : tt_St} (hI : tb_ok st) : tb_ok (se_fill st o a1 a2 a3 a4) := by
  unfold tb_ok tt_I
  rw [se_fill_I]
  exact hI
theorem tb_pl_in {st : tt_St} (hI : tb_ok st) (h : tt_I st 1 1 < 96) : vp_in (tt_I st 1 1) 96 := by
  have e : (96 : Int32).toInt = 96 := rfl
  rw [tt_lt, e] at h
  exact tt_in hI.2.2.1 (by omega)
theorem tt_turn_a {a : Int32} (h : ¬ tb_within a 1 144 = 0) : 1 ≤ a.toInt ∧ a.toInt ≤ 144 := by
  have h1 := tb_within_1.mp h
  have e1 : (1 : Int32).toInt = 1 := rfl
  have e2 : (144 : Int32).toInt = 144 := rfl
  omega
theorem tt_a344 {a : Int32} (h : 1 ≤ a.toInt ∧ a.toInt ≤ 144) : vp_in a 344 ∧ vp_in (a - 1) 344 := by
  have e1 : (1 : Int32).toInt = 1 := rfl
  have e : (a - 1).toInt = a.toInt - 1 := by rw [tt_sub] <;> rw [e1] <;> omega
  exact ⟨tt_in (by omega) (by omega), tt_in (by omega) (by omega)⟩
theorem tt_turn_s {a x : Int32} {n : Nat} (ha : 1 ≤ a.toInt ∧ a.toInt ≤ 144) (hx : a.toInt + 1 ≤ x.toInt ∧ x.toInt ≤ a.toInt + 144 ∧ a.toInt + 145 ≤ x.toInt + ((n + 1 : Nat) : Int)) (c : ¬ a + 144 ≤ x) : a.toInt + 1 ≤ (x + 1).toInt ∧ (x + 1).toInt ≤ a.toInt + 144 ∧ a.toInt + 145 ≤ (x + 1).toInt + (n : Int) := by
  have e := tt_addn (a := a) (b := 144) (n := 144) rfl (by omega) (by omega)
  have e1 := tt_addn (a := x) (b := 1) (n := 1) rfl (by omega) (by omega)
  rw [tt_le, e] at c
  omega
theorem tt_pred {j N : Nat} (hj : j < N) (hN : N < 2147483648) (c : ¬ nI j = 0) : vp_in (nI j - 1) N := by
  cases j with
  | zero => exact absurd rfl c
  | succ k => rw [nI_pred]; exact vp_in_nI (by omega) hN
theorem tt_trip_i {a : Int32} {j : Nat} (hp : vp_in a 144) (h1 : 1 ≤ j) (h2 : j ≤ 200) : vp_in ((a + nI j) - 1) 344 := by
  obtain ⟨x, hx, rfl⟩ := vp_in_of hp (by decide)
  have e : nI x + nI j - 1 = nI (x + j - 1) := by
    rw [nI_add, show x + j = (x + j - 1) + 1 by omega, nI_pred]; rfl
  rw [e]
  exact vp_in_nI (by omega) (by omega)
theorem tt_last_i {x : Int32} {n : Nat} (hx : 0 ≤ x.toInt ∧ x.toInt ≤ 143 ∧ 144 ≤ x.toInt + (n : Int)) : vp_in (x + 1) 344 := by
  have e1 := tt_addn (a := x) (b := 1) (n := 1) rfl (by omega) (by omega)
  exact tt_in (by omega) (by omega)
theorem tt_last_s {x : Int32} {n : Nat} (hx : 0 ≤ x.toInt ∧ x.toInt ≤ 143 ∧ 144 ≤ x.toInt + ((n + 1 : Nat) : Int)) (c : ¬ 144 ≤ x + 1) : 0 ≤ (x + 1).toInt ∧ (x + 1).toInt ≤ 143 ∧ 144 ≤ (x + 1).toInt + (n : Int) := by
  have e1 := tt_addn (a := x) (b := 1) (n := 1) rfl (by omega) (by omega)
  have e : (144 : Int32).toInt = 144 := rfl
  rw [tt_le, e] at c
  omega
theorem tt_pred1 {j : Nat} (h1 : 1 ≤ j) (hj : j ≤ 144) : vp_in (nI j - 1) 344 := by
  rw [show j = (j - 1) + 1 by omega, nI_pred]
  exact vp_in_nI (by omega) (by omega)

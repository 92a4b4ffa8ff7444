theorem tt_pI_ne {st : tt_St} {o o' f f' : Nat} {v : Int32} (h : o' ≠ o) : tt_I (tt_pI st o f v) o' f' = tt_I st o' f' := by
  simp [tt_I, tt_pI, h]
theorem tt_pI_nf {st : tt_St} {o o' f f' : Nat} {v : Int32} (h : f' ≠ f) : tt_I (tt_pI st o f v) o' f' = tt_I st o' f' := by
  simp [tt_I, tt_pI, h]
theorem wa_put_ne {st : tt_St} {o o' f' : Nat} {a b c : Int32} (h : o' ≠ o) : tt_I (wa_put st o a b c) o' f' = tt_I st o' f' := by
  rw [wa_put, tt_pI_ne h, tt_pI_ne h, tt_pI_ne h]
theorem tt_wv_ne {o j : Nat} (ho : tt_ci o = 1) : o ≠ tt_wv o j := by
  have := tt_po_rng ho
  unfold tt_wv
  omega
theorem po_many_in {st : tt_St} {o : Nat} (hI : tb_ok st) (ho : tt_ci o = 1) (h : ¬ 3 ≤ tt_I st o 6) : vp_in (tt_I st o 6) 3 := by
  have e : (3 : Int32).toInt = 3 := rfl
  rw [tt_le, e] at h
  exact tt_in (hI.1 o ho).1 (by omega)
theorem tt_dr {a : Int32} {m j : Nat} (hw : vp_in a m) (hm : m ≤ 3) (hj : j ≤ 3) : ((a + nI j) + 1).toInt = a.toInt + (j : Int) + 1 ∧ (a + nI j).toInt = a.toInt + (j : Int) ∧ 0 ≤ a.toInt ∧ a.toInt < (m : Int) ∧ a.toNatClampNeg = a.toInt.toNat := by
  have h := tt_in_lt hw
  have e := tt_addn (a := a) (b := nI j) (n := (j : Int)) (nI_toInt (by omega)) (by omega) (by omega)
  have e2 := tt_addn (a := a + nI j) (b := 1) (n := 1) rfl (by omega) (by omega)
  exact ⟨by omega, e, h.1, h.2, rfl⟩
theorem tt_drE {a : Int32} {m j : Nat} (hw : vp_in a m) (hm : m ≤ 3) (hj : j = m - 1 - a.toNatClampNeg) : nI m ≤ (a + nI j) + 1 := by
  obtain ⟨e1, e2, e3, e4, e5⟩ := tt_dr (j := j) hw hm (by omega)
  rw [tt_le, e1, nI_toInt (by omega)]
  omega
theorem tt_drS {a : Int32} {m j : Nat} (hw : vp_in a m) (hm : m ≤ 3) (hj : j < m - 1 - a.toNatClampNeg) : ¬ nI m ≤ (a + nI j) + 1 := by
  obtain ⟨e1, e2, e3, e4, e5⟩ := tt_dr (j := j) hw hm (by omega)
  rw [tt_le, e1, nI_toInt (by omega)]
  omega
theorem tt_drI {a : Int32} {m j : Nat} (hw : vp_in a m) (hm : m ≤ 3) (hj : j < m - 1 - a.toNatClampNeg) : vp_in ((a + nI j) + 1) 3 ∧ vp_in (a + nI j) 3 := by
  obtain ⟨e1, e2, e3, e4, e5⟩ := tt_dr (j := j) hw hm (by omega)
  exact ⟨tt_in (by omega) (by omega), tt_in (by omega) (by omega)⟩
theorem tb_dr_t {a : Int32} (h : ¬ tb_within a 1 50 = 0) : 0 ≤ a.toInt := by
  have h1 := tb_within_1.mp h
  have e : (1 : Int32).toInt = 1 := rfl
  omega
theorem tt_mask31i (y : Int32) : 0 ≤ (y &&& 2147483647).toInt := by
  have e : (y &&& 2147483647).toBitVec.toNat = y.toBitVec.toNat % 2 ^ 31 := by
    rw [Int32.toBitVec_and, BitVec.toNat_and]
    exact Nat.and_two_pow_sub_one_eq_mod _ 31
  have h : (y &&& 2147483647).toBitVec.toNat < 2147483648 := by rw [e]; exact Nat.mod_lt _ (by decide)
  have e2 : (y &&& 2147483647).toInt = (y &&& 2147483647).toBitVec.toInt := rfl
  rw [e2, BitVec.toInt_eq_toNat_of_lt (by omega)]
  omega
theorem tb_seed_pos (x : Int32) : 0 ≤ (tb_nextSeed x).toInt := by
  rw [tb_nextSeed]
  exact tt_mask31i _
theorem tt_shr16 {x : Int32} (h : 0 ≤ x.toInt) : (x >>> ((16 : Int32) &&& 31)).toInt = x.toInt / 65536 := by
  rw [pk_shr x ((16 : Int32) &&& 31) 16 (by decide), Int.shiftRight_eq_div_pow]
  rfl
theorem tb_draw_in {st : tt_St} {x : Int32} (hI : tb_ok st) (hz : ¬ tt_I st 3 1 = 0) : vp_in ((tb_nextSeed x >>> ((16 : Int32) &&& 31)) - (tb_nextSeed x >>> ((16 : Int32) &&& 31)) / tt_I st 3 1 * tt_I st 3 1) 4 := by
  have hz' : ¬ (tt_I st 3 1).toInt = 0 := fun q => hz (tt_eq.mpr q)
  have hp := hI.2.1 3 rfl
  have h1 := tb_seed_pos x
  have h2 := tt_shr16 h1
  have h3 : 0 ≤ (tb_nextSeed x >>> ((16 : Int32) &&& 31)).toInt := by rw [h2]; omega
  have h4 := tt_remb (x := tb_nextSeed x >>> ((16 : Int32) &&& 31)) (d := tt_I st 3 1) (by omega)
  have h5 := tt_rem (x := tb_nextSeed x >>> ((16 : Int32) &&& 31)) (d := tt_I st 3 1) (by omega)
  have h6 := Int.tmod_nonneg (tt_I st 3 1).toInt h3
  exact tt_in (by omega) (by omega)

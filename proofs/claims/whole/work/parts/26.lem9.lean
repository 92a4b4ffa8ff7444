theorem tt_lrem {x d : Int64} (hx : 0 ≤ x.toInt) (hd : 0 < d.toInt) : (x - x / d * d).toInt = x.toInt % d.toInt := by
  have hx2 := Int64.toInt_lt x
  have hd2 := Int64.toInt_lt d
  have h0 : 0 ≤ x.toInt / d.toInt := Int.ediv_nonneg hx (Int.le_of_lt hd)
  have h1 : x.toInt / d.toInt ≤ x.toInt := Int.ediv_le_self _ hx
  have e1 : (x / d).toInt = x.toInt / d.toInt := by
    rw [Int64.toInt_div, Int.tdiv_eq_ediv_of_nonneg hx, Int.bmod_def]; omega
  have e0 := Int.mul_ediv_add_emod x.toInt d.toInt
  have h5 : 0 ≤ d.toInt * (x.toInt / d.toInt) := Int.mul_nonneg (Int.le_of_lt hd) h0
  have h2 := Int.emod_nonneg x.toInt (by omega : d.toInt ≠ 0)
  have e2 : (x / d * d).toInt = d.toInt * (x.toInt / d.toInt) := by
    rw [Int64.toInt_mul, e1, Int.mul_comm, Int.bmod_def]; omega
  rw [Int64.toInt_sub, e2, Int.bmod_def]
  omega
theorem tt_mask31 (y : Int64) : 0 ≤ (y &&& 2147483647).toInt ∧ (y &&& 2147483647).toInt < 2147483648 := by
  have e : (y &&& 2147483647).toBitVec.toNat = y.toBitVec.toNat % 2 ^ 31 := by
    rw [Int64.toBitVec_and, BitVec.toNat_and]
    exact Nat.and_two_pow_sub_one_eq_mod _ 31
  have h : (y &&& 2147483647).toBitVec.toNat < 2147483648 := by rw [e]; exact Nat.mod_lt _ (by decide)
  have e2 : (y &&& 2147483647).toInt = (y &&& 2147483647).toBitVec.toInt := rfl
  rw [e2, BitVec.toInt_eq_toNat_of_lt (by omega)]
  omega
theorem mo_draw_in {st : tt_St} (hI : mo_ok st) (hz : ¬ tt_I st 49 1 = 0) : vp_in (mo_draw st (tt_I st 49 1)).1 4 := by
  have hz' : ¬ (tt_I st 49 1).toInt = 0 := fun q => hz (tt_eq.mpr q)
  have hp := hI.1
  rw [mo_draw]
  generalize tt_I st 49 1 = d at *
  have ed : d.toInt64.toInt = d.toInt := Int32.toInt_toInt64 d
  show vp_in (Int64.toInt32 (tt_L (tt_pL st 49 25 _) 49 25 / 65536 - tt_L (tt_pL st 49 25 _) 49 25 / 65536 / d.toInt64 * d.toInt64)) 4
  generalize hy : tt_L (tt_pL st 49 25 (((1103515245 * (tt_L st 49 25)) + 12345) &&& 2147483647)) 49 25 = y
  have hy2 : y = (((1103515245 * (tt_L st 49 25)) + 12345) &&& 2147483647) := by rw [← hy]; simp [tt_L, tt_pL]
  have h1 := tt_mask31 ((1103515245 * (tt_L st 49 25)) + 12345)
  rw [← hy2] at h1
  have e65 : (65536 : Int64).toInt = 65536 := rfl
  have e1 : (y / 65536).toInt = y.toInt / 65536 := by
    rw [Int64.toInt_div, Int.tdiv_eq_ediv_of_nonneg h1.1, e65, Int.bmod_def]; omega
  have h2 : 0 ≤ (y / 65536).toInt := by rw [e1]; omega
  have e2 := tt_lrem (x := y / 65536) (d := d.toInt64) h2 (by omega)
  have h3 := Int.emod_nonneg (y / 65536).toInt (by omega : d.toInt64.toInt ≠ 0)
  have h4 := Int.emod_lt_of_pos (y / 65536).toInt (by omega : 0 < d.toInt64.toInt)
  have e3 : (Int64.toInt32 (y / 65536 - y / 65536 / d.toInt64 * d.toInt64)).toInt = (y / 65536 - y / 65536 / d.toInt64 * d.toInt64).toInt := by
    rw [Int64.toInt_toInt32, Int.bmod_def]; omega
  exact tt_in (by omega) (by omega)

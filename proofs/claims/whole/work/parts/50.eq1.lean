/-! numbers: the two ways to round down, the two ways to take a rest -/
theorem eq_by {v d : Int32} (hd : 0 < d.toInt) : (mo_by v d).toInt = v.toInt / d.toInt := by
  have hv := tt_rg v
  have hdr := tt_rg d
  have hq := tt_div (x := v) hd
  have hr := tt_rem (x := v) hd
  have hb := tt_remb (x := v) hd
  have e0 : (0 : Int32).toInt = 0 := rfl
  have e1 : (1 : Int32).toInt = 1 := rfl
  have ed := Int.tmod_def v.toInt d.toInt
  rw [hr] at hb
  rw [mo_by]
  by_cases c : 0 ≤ v - v / d * d
  · rw [if_pos c, hq]
    rw [tt_le, e0, hr] at c
    exact ((Int.ediv_emod_unique hd).mpr ⟨by omega, c, hb.2⟩).1.symm
  · rw [if_neg c]
    rw [tt_le, e0, hr] at c
    have hneg : v.toInt < 0 := by
      rcases Int.lt_or_le v.toInt 0 with q | q
      · exact q
      · exact absurd (Int.tmod_nonneg d.toInt q) c
    have hqb : -2147483648 < v.toInt.tdiv d.toInt := by
      have a1 := Int.tdiv_le_self (a := -v.toInt) (b := d.toInt) (by omega)
      rw [Int.neg_tdiv] at a1
      rcases Int.lt_or_le (-2147483648) (v.toInt.tdiv d.toInt) with q | q
      · exact q
      · exfalso
        have hm : v.toInt.tdiv d.toInt = -2147483648 := by omega
        rw [hm] at ed
        omega
    have hs : (v / d - 1).toInt = v.toInt.tdiv d.toInt - 1 := by
      have hup : v.toInt.tdiv d.toInt ≤ 2147483647 := by have := tt_rg (v / d); omega
      rw [tt_sub] <;> rw [hq, e1] <;> omega
    rw [hs]
    refine ((Int.ediv_emod_unique hd (r := v.toInt.tmod d.toInt + d.toInt)).mpr ⟨?_, by omega, by omega⟩).1.symm
    rw [Int.mul_sub]
    omega
theorem eq_xneg {x y : Int32} (hy : 0 ≤ y.toInt) : 0 ≤ (x ^^^ y).toInt ↔ 0 ≤ x.toInt := by
  have key : ∀ z : Int32, 0 ≤ z.toInt ↔ z.toBitVec.msb = false := fun z => by
    have e : z.toInt = z.toBitVec.toInt := rfl
    rw [e, BitVec.msb_eq_toInt]
    simp
  rw [key, key, Int32.toBitVec_xor, BitVec.msb_xor, (key y).mp hy]
  simp
theorem eq_fd {v d : Int32} (hd : 0 < d.toInt) : ma_floorDiv v d = mo_by v d := by
  have e0 : (0 : Int32).toInt = 0 := rfl
  have hr := tt_rem (x := v) hd
  have hb := tt_remb (x := v) hd
  rw [ma_floorDiv, mo_by]
  by_cases c : 0 ≤ v.toInt
  · have c1 : 0 ≤ v ^^^ d := by rw [tt_le, e0, eq_xneg (Int.le_of_lt hd)]; exact c
    have c2 : 0 ≤ v - v / d * d := by rw [tt_le, e0, hr]; exact Int.tmod_nonneg _ c
    rw [if_pos c1, if_pos c2]
  · have c1 : ¬ 0 ≤ v ^^^ d := by rw [tt_le, e0, eq_xneg (Int.le_of_lt hd)]; exact c
    rw [if_neg c1]
    by_cases c3 : v / d * d = v
    · rw [if_pos c3, if_pos (by rw [c3, Int32.sub_self]; decide)]
    · rw [if_neg c3, if_neg]
      rw [tt_le, e0, hr]
      intro q
      apply c3
      have h1 := Int.tmod_nonneg d.toInt (a := -v.toInt) (by omega)
      rw [Int.neg_tmod] at h1
      have h2 : (v - v / d * d).toInt = 0 := by rw [hr]; omega
      have h3 : v - v / d * d = 0 := by rw [tt_eq, h2]; rfl
      have h4 : v - v / d * d + v / d * d = v / d * d := by rw [h3, Int32.zero_add]
      rw [Int32.sub_add_cancel] at h4
      exact h4.symm
theorem eq_shr4 (x : Int32) : x >>> ((4 : Int32) &&& 31) = mo_by x 16 := by
  rw [tt_eq, eq_by (by decide), pk_shr x ((4 : Int32) &&& 31) 4 (by decide), Int.shiftRight_eq_div_pow]
  rfl
theorem eq_and1023 (x : Int32) : (x &&& 1023).toInt = x.toInt % 1024 := by
  have e := pk_and x (m := 1023) 10 (by decide)
  rw [e, nI_toInt (by omega)]
  have e2 : x.toInt = x.toBitVec.toInt := rfl
  rw [e2, BitVec.toInt_eq_toNat_cond]
  split <;> omega
theorem eq_wrap (x : Int32) : ((x - x / 1024 * 1024) + 1024) - ((x - x / 1024 * 1024) + 1024) / 1024 * 1024 = x &&& 1023 := by
  have e24 : (1024 : Int32).toInt = 1024 := rfl
  have hd : 0 < (1024 : Int32).toInt := by decide
  have hb := tt_remb (x := x) hd
  have hr := tt_rem (x := x) hd
  have e2 : ((x - x / 1024 * 1024) + 1024).toInt = (x - x / 1024 * 1024).toInt + 1024 := tt_addn rfl (by omega) (by omega)
  rw [tt_eq, eq_and1023, tt_rem hd, e2, e24]
  rw [e24] at hr hb
  rw [Int.tmod_eq_emod_of_nonneg (by omega)]
  have hm := Int.tmod_def x.toInt 1024
  rw [hr, hm]
  omega
theorem eq_sh {k : Nat} (hk : k < 1024) : nI k >>> ((4 : Int32) &&& 31) = nI (k / 16) ∧ nI k &&& 15 = nI (k % 16) ∧ nI k / 16 = nI (k / 16) ∧ nI k - nI k / 16 * 16 = nI (k % 16) := by
  refine ⟨pk_shrN (by omega) _ 4 (by decide), ?_, pk_div (by omega) (by decide) (by decide), pk_rem (by omega) (by decide) (by decide)⟩
  exact pk_andN (by omega) 4 (by decide)
theorem eq_turn {st : tt_St} (hr : ∀ n, n ≤ 64 → tt_A st 56 n = tb_roundAt (nI n)) (x : Int32) :
    ((tb_roundAt ((x &&& 1023) >>> ((4 : Int32) &&& 31)) * (16 - ((x &&& 1023) &&& 15))) + (tb_roundAt (((x &&& 1023) >>> ((4 : Int32) &&& 31)) + 1) * ((x &&& 1023) &&& 15))) >>> ((4 : Int32) &&& 31) = mo_turnAt st (x &&& 1023) := by
  obtain ⟨k, hk, e⟩ := pk_andE x (m := 1023) 10 (by decide)
  obtain ⟨e1, e2, e3, e4⟩ := eq_sh (k := k) hk
  rw [mo_turnAt, e, e1, e2, e4, e3, nI_1, nI_clamp (by omega), nI_clamp (by omega), hr _ (by omega), hr _ (by omega), eq_shr4]

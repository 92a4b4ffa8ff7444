/-! java/lang/Math.floorDiv(II)I -/
def ma_floorDiv (a1 : Int32) (a2 : Int32) : Int32 := (if 0 ≤ (a1 ^^^ a2) then (a1 / a2) else (if ((a1 / a2) * a2) = a1 then (a1 / a2) else ((a1 / a2) - 1)))
set_option maxHeartbeats 4000000 in
set_option maxRecDepth 20000 in
theorem c_ma_floorDiv (G : tt_G) (st : tt_St) (a1 : Int32) (a2 : Int32) (hd : ¬ a2 = 0) : tt_C y_ma_floorDiv prog_10_method_47_code 3 (some .int) 0 0 G [.int a1, .int a2] st (some (.int (ma_floorDiv a1 a2))) st := by
  refine tt_enter (α := Int32) (mk := fun r => (some (.int r), st)) (T := (ma_floorDiv a1 a2)) (by decide +kernel) (Nat.le_of_ble_eq_true rfl) (fun κ hC hR => ?_)
  rw [ma_floorDiv]
  refine r_iload_n 0 hC d_ma_floorDiv_0 rfl ?_
  refine r_iload_n 1 hC d_ma_floorDiv_1 rfl ?_
  refine r_idiv hC d_ma_floorDiv_2 hd ?_
  refine r_istore_n [(2, .int (a1 / a2)), (0, .int a1), (1, .int a2)] hC d_ma_floorDiv_3 rfl (by decide) rfl ?_
  refine r_iload_n 1 hC d_ma_floorDiv_4 rfl ?_
  refine r_iload_n 2 hC d_ma_floorDiv_5 rfl ?_
  refine r_ixor hC d_ma_floorDiv_6 ?_
  refine r_if_ge (tgt := 21) hC d_ma_floorDiv_7 (by decide) (fun c_7 => ?_) (fun c_7 => ?_)
  ·
    refine r_iload_n 0 hC d_ma_floorDiv_21 rfl ?_
    exact r_iret hC hR d_ma_floorDiv_22 rfl rfl
  ·
    refine r_iload_n 0 hC d_ma_floorDiv_10 rfl ?_
    refine r_iload_n 2 hC d_ma_floorDiv_11 rfl ?_
    refine r_imul hC d_ma_floorDiv_12 ?_
    refine r_iload_n 1 hC d_ma_floorDiv_13 rfl ?_
    refine r_icmp_eq (tgt := 21) hC d_ma_floorDiv_14 (by decide) (fun c_14 => ?_) (fun c_14 => ?_)
    ·
      refine r_iload_n 0 hC d_ma_floorDiv_21 rfl ?_
      exact r_iret hC hR d_ma_floorDiv_22 rfl rfl
    ·
      refine r_iload_n 0 hC d_ma_floorDiv_17 rfl ?_
      refine r_iconst (v := 1) hC d_ma_floorDiv_18 (by decide) ?_
      refine r_isub hC d_ma_floorDiv_19 ?_
      exact r_iret hC hR d_ma_floorDiv_20 rfl rfl
/-! java/lang/Math.max(II)I -/
def ma_max (a1 : Int32) (a2 : Int32) : Int32 := (if a1 < a2 then a2 else a1)
set_option maxHeartbeats 4000000 in
set_option maxRecDepth 20000 in
theorem c_ma_max (G : tt_G) (st : tt_St) (a1 : Int32) (a2 : Int32)  : tt_C y_ma_max prog_10_method_65_code 2 (some .int) 0 0 G [.int a1, .int a2] st (some (.int (ma_max a1 a2))) st := by
  refine tt_enter (α := Int32) (mk := fun r => (some (.int r), st)) (T := (ma_max a1 a2)) (by decide +kernel) (Nat.le_of_ble_eq_true rfl) (fun κ hC hR => ?_)
  rw [ma_max]
  refine r_iload_n 0 hC d_ma_max_0 rfl ?_
  refine r_iload_n 1 hC d_ma_max_1 rfl ?_
  refine r_icmp_lt (tgt := 9) hC d_ma_max_2 (by decide) (fun c_2 => ?_) (fun c_2 => ?_)
  ·
    refine r_iload_n 1 hC d_ma_max_9 rfl ?_
    exact r_iret hC hR d_ma_max_10 rfl rfl
  ·
    refine r_iload_n 0 hC d_ma_max_5 rfl ?_
    refine r_goto (tgt := 10) hC d_ma_max_6 (by decide) ?_
    exact r_iret hC hR d_ma_max_10 rfl rfl
/-! java/lang/Math.min(II)I -/
def ma_min (a1 : Int32) (a2 : Int32) : Int32 := (if a2 < a1 then a2 else a1)
set_option maxHeartbeats 4000000 in
set_option maxRecDepth 20000 in
theorem c_ma_min (G : tt_G) (st : tt_St) (a1 : Int32) (a2 : Int32)  : tt_C y_ma_min prog_10_method_69_code 2 (some .int) 0 0 G [.int a1, .int a2] st (some (.int (ma_min a1 a2))) st := by
  refine tt_enter (α := Int32) (mk := fun r => (some (.int r), st)) (T := (ma_min a1 a2)) (by decide +kernel) (Nat.le_of_ble_eq_true rfl) (fun κ hC hR => ?_)
  rw [ma_min]
  refine r_iload_n 0 hC d_ma_min_0 rfl ?_
  refine r_iload_n 1 hC d_ma_min_1 rfl ?_
  refine r_icmp_gt (tgt := 9) hC d_ma_min_2 (by decide) (fun c_2 => ?_) (fun c_2 => ?_)
  ·
    refine r_iload_n 1 hC d_ma_min_9 rfl ?_
    exact r_iret hC hR d_ma_min_10 rfl rfl
  ·
    refine r_iload_n 0 hC d_ma_min_5 rfl ?_
    refine r_goto (tgt := 10) hC d_ma_min_6 (by decide) ?_
    exact r_iret hC hR d_ma_min_10 rfl rfl
/-! java/lang/Integer.compare(II)I -/
def in_compare (a1 : Int32) (a2 : Int32) : Int32 := (if a2 ≤ a1 then (if a1 = a2 then 0 else 1) else (-1))
set_option maxHeartbeats 4000000 in
set_option maxRecDepth 20000 in
theorem c_in_compare (G : tt_G) (st : tt_St) (a1 : Int32) (a2 : Int32)  : tt_C y_in_compare prog_9_method_40_code 2 (some .int) 0 0 G [.int a1, .int a2] st (some (.int (in_compare a1 a2))) st := by
  refine tt_enter (α := Int32) (mk := fun r => (some (.int r), st)) (T := (in_compare a1 a2)) (by decide +kernel) (Nat.le_of_ble_eq_true rfl) (fun κ hC hR => ?_)
  rw [in_compare]
  refine r_iload_n 0 hC d_in_compare_0 rfl ?_
  refine r_iload_n 1 hC d_in_compare_1 rfl ?_
  refine r_icmp_ge (tgt := 9) hC d_in_compare_2 (by decide) (fun c_2 => ?_) (fun c_2 => ?_)
  ·
    refine r_iload_n 0 hC d_in_compare_9 rfl ?_
    refine r_iload_n 1 hC d_in_compare_10 rfl ?_
    refine r_icmp_ne (tgt := 18) hC d_in_compare_11 (by decide) (fun c_11 => ?_) (fun c_11 => ?_)
    ·
      refine r_iconst (v := 1) hC d_in_compare_18 (by decide) ?_
      exact r_iret hC hR d_in_compare_19 rfl rfl
    ·
      refine r_iconst (v := 0) hC d_in_compare_14 (by decide) ?_
      refine r_goto (tgt := 19) hC d_in_compare_15 (by decide) ?_
      exact r_iret hC hR d_in_compare_19 rfl rfl
  ·
    refine r_iconst (v := (-1)) hC d_in_compare_5 (by decide) ?_
    refine r_goto (tgt := 19) hC d_in_compare_6 (by decide) ?_
    exact r_iret hC hR d_in_compare_19 rfl rfl
/-! java/lang/Integer.bitCount(I)I -/
def in_bitCount (a1 : Int32) : Int32 := ((((((((a1 - (((Int32.toUInt32 a1 >>> (Int32.toUInt32 1 &&& Int32.toUInt32 31)).toInt32) &&& 1431655765)) &&& 858993459) + (((Int32.toUInt32 (a1 - (((Int32.toUInt32 a1 >>> (Int32.toUInt32 1 &&& Int32.toUInt32 31)).toInt32) &&& 1431655765)) >>> (Int32.toUInt32 2 &&& Int32.toUInt32 31)).toInt32) &&& 858993459)) + ((Int32.toUInt32 (((a1 - (((Int32.toUInt32 a1 >>> (Int32.toUInt32 1 &&& Int32.toUInt32 31)).toInt32) &&& 1431655765)) &&& 858993459) + (((Int32.toUInt32 (a1 - (((Int32.toUInt32 a1 >>> (Int32.toUInt32 1 &&& Int32.toUInt32 31)).toInt32) &&& 1431655765)) >>> (Int32.toUInt32 2 &&& Int32.toUInt32 31)).toInt32) &&& 858993459)) >>> (Int32.toUInt32 4 &&& Int32.toUInt32 31)).toInt32)) &&& 252645135) + ((Int32.toUInt32 (((((a1 - (((Int32.toUInt32 a1 >>> (Int32.toUInt32 1 &&& Int32.toUInt32 31)).toInt32) &&& 1431655765)) &&& 858993459) + (((Int32.toUInt32 (a1 - (((Int32.toUInt32 a1 >>> (Int32.toUInt32 1 &&& Int32.toUInt32 31)).toInt32) &&& 1431655765)) >>> (Int32.toUInt32 2 &&& Int32.toUInt32 31)).toInt32) &&& 858993459)) + ((Int32.toUInt32 (((a1 - (((Int32.toUInt32 a1 >>> (Int32.toUInt32 1 &&& Int32.toUInt32 31)).toInt32) &&& 1431655765)) &&& 858993459) + (((Int32.toUInt32 (a1 - (((Int32.toUInt32 a1 >>> (Int32.toUInt32 1 &&& Int32.toUInt32 31)).toInt32) &&& 1431655765)) >>> (Int32.toUInt32 2 &&& Int32.toUInt32 31)).toInt32) &&& 858993459)) >>> (Int32.toUInt32 4 &&& Int32.toUInt32 31)).toInt32)) &&& 252645135) >>> (Int32.toUInt32 8 &&& Int32.toUInt32 31)).toInt32)) + ((Int32.toUInt32 ((((((a1 - (((Int32.toUInt32 a1 >>> (Int32.toUInt32 1 &&& Int32.toUInt32 31)).toInt32) &&& 1431655765)) &&& 858993459) + (((Int32.toUInt32 (a1 - (((Int32.toUInt32 a1 >>> (Int32.toUInt32 1 &&& Int32.toUInt32 31)).toInt32) &&& 1431655765)) >>> (Int32.toUInt32 2 &&& Int32.toUInt32 31)).toInt32) &&& 858993459)) + ((Int32.toUInt32 (((a1 - (((Int32.toUInt32 a1 >>> (Int32.toUInt32 1 &&& Int32.toUInt32 31)).toInt32) &&& 1431655765)) &&& 858993459) + (((Int32.toUInt32 (a1 - (((Int32.toUInt32 a1 >>> (Int32.toUInt32 1 &&& Int32.toUInt32 31)).toInt32) &&& 1431655765)) >>> (Int32.toUInt32 2 &&& Int32.toUInt32 31)).toInt32) &&& 858993459)) >>> (Int32.toUInt32 4 &&& Int32.toUInt32 31)).toInt32)) &&& 252645135) + ((Int32.toUInt32 (((((a1 - (((Int32.toUInt32 a1 >>> (Int32.toUInt32 1 &&& Int32.toUInt32 31)).toInt32) &&& 1431655765)) &&& 858993459) + (((Int32.toUInt32 (a1 - (((Int32.toUInt32 a1 >>> (Int32.toUInt32 1 &&& Int32.toUInt32 31)).toInt32) &&& 1431655765)) >>> (Int32.toUInt32 2 &&& Int32.toUInt32 31)).toInt32) &&& 858993459)) + ((Int32.toUInt32 (((a1 - (((Int32.toUInt32 a1 >>> (Int32.toUInt32 1 &&& Int32.toUInt32 31)).toInt32) &&& 1431655765)) &&& 858993459) + (((Int32.toUInt32 (a1 - (((Int32.toUInt32 a1 >>> (Int32.toUInt32 1 &&& Int32.toUInt32 31)).toInt32) &&& 1431655765)) >>> (Int32.toUInt32 2 &&& Int32.toUInt32 31)).toInt32) &&& 858993459)) >>> (Int32.toUInt32 4 &&& Int32.toUInt32 31)).toInt32)) &&& 252645135) >>> (Int32.toUInt32 8 &&& Int32.toUInt32 31)).toInt32)) >>> (Int32.toUInt32 16 &&& Int32.toUInt32 31)).toInt32)) &&& 63)
set_option maxHeartbeats 4000000 in
set_option maxRecDepth 20000 in
theorem c_in_bitCount (G : tt_G) (st : tt_St) (a1 : Int32)  : tt_C y_in_bitCount prog_9_method_49_code 1 (some .int) 0 0 G [.int a1] st (some (.int (in_bitCount a1))) st := by
  refine tt_enter (α := Int32) (mk := fun r => (some (.int r), st)) (T := (in_bitCount a1)) (by decide +kernel) (Nat.le_of_ble_eq_true rfl) (fun κ hC hR => ?_)
  rw [in_bitCount]
  refine r_iload_n 0 hC d_in_bitCount_0 rfl ?_
  refine r_iload_n 0 hC d_in_bitCount_1 rfl ?_
  refine r_iconst (v := 1) hC d_in_bitCount_2 (by decide) ?_
  refine r_iushr hC d_in_bitCount_3 ?_
  refine r_ldcw hC d_in_bitCount_4 k_in_265 ?_
  refine r_iand hC d_in_bitCount_7 ?_
  refine r_isub hC d_in_bitCount_8 ?_
  refine r_istore_n [(0, .int (a1 - (((Int32.toUInt32 a1 >>> (Int32.toUInt32 1 &&& Int32.toUInt32 31)).toInt32) &&& 1431655765)))] hC d_in_bitCount_9 rfl (by decide) rfl ?_
  refine r_iload_n 0 hC d_in_bitCount_10 rfl ?_
  refine r_ldcw hC d_in_bitCount_11 k_in_266 ?_
  refine r_iand hC d_in_bitCount_14 ?_
  refine r_iload_n 0 hC d_in_bitCount_15 rfl ?_
  refine r_iconst (v := 2) hC d_in_bitCount_16 (by decide) ?_
  refine r_iushr hC d_in_bitCount_17 ?_
  refine r_ldcw hC d_in_bitCount_18 k_in_266 ?_
  refine r_iand hC d_in_bitCount_21 ?_
  refine r_iadd hC d_in_bitCount_22 ?_
  refine r_istore_n [(0, .int (((a1 - (((Int32.toUInt32 a1 >>> (Int32.toUInt32 1 &&& Int32.toUInt32 31)).toInt32) &&& 1431655765)) &&& 858993459) + (((Int32.toUInt32 (a1 - (((Int32.toUInt32 a1 >>> (Int32.toUInt32 1 &&& Int32.toUInt32 31)).toInt32) &&& 1431655765)) >>> (Int32.toUInt32 2 &&& Int32.toUInt32 31)).toInt32) &&& 858993459)))] hC d_in_bitCount_23 rfl (by decide) rfl ?_
  refine r_iload_n 0 hC d_in_bitCount_24 rfl ?_
  refine r_iload_n 0 hC d_in_bitCount_25 rfl ?_
  refine r_iconst (v := 4) hC d_in_bitCount_26 (by decide) ?_
  refine r_iushr hC d_in_bitCount_27 ?_
  refine r_iadd hC d_in_bitCount_28 ?_
  refine r_ldcw hC d_in_bitCount_29 k_in_267 ?_
  refine r_iand hC d_in_bitCount_32 ?_
  refine r_istore_n [(0, .int (((((a1 - (((Int32.toUInt32 a1 >>> (Int32.toUInt32 1 &&& Int32.toUInt32 31)).toInt32) &&& 1431655765)) &&& 858993459) + (((Int32.toUInt32 (a1 - (((Int32.toUInt32 a1 >>> (Int32.toUInt32 1 &&& Int32.toUInt32 31)).toInt32) &&& 1431655765)) >>> (Int32.toUInt32 2 &&& Int32.toUInt32 31)).toInt32) &&& 858993459)) + ((Int32.toUInt32 (((a1 - (((Int32.toUInt32 a1 >>> (Int32.toUInt32 1 &&& Int32.toUInt32 31)).toInt32) &&& 1431655765)) &&& 858993459) + (((Int32.toUInt32 (a1 - (((Int32.toUInt32 a1 >>> (Int32.toUInt32 1 &&& Int32.toUInt32 31)).toInt32) &&& 1431655765)) >>> (Int32.toUInt32 2 &&& Int32.toUInt32 31)).toInt32) &&& 858993459)) >>> (Int32.toUInt32 4 &&& Int32.toUInt32 31)).toInt32)) &&& 252645135))] hC d_in_bitCount_33 rfl (by decide) rfl ?_
  refine r_iload_n 0 hC d_in_bitCount_34 rfl ?_
  refine r_iload_n 0 hC d_in_bitCount_35 rfl ?_
  refine r_bipush (v := 8) hC d_in_bitCount_36 (by decide) ?_
  refine r_iushr hC d_in_bitCount_38 ?_
  refine r_iadd hC d_in_bitCount_39 ?_
  refine r_istore_n [(0, .int ((((((a1 - (((Int32.toUInt32 a1 >>> (Int32.toUInt32 1 &&& Int32.toUInt32 31)).toInt32) &&& 1431655765)) &&& 858993459) + (((Int32.toUInt32 (a1 - (((Int32.toUInt32 a1 >>> (Int32.toUInt32 1 &&& Int32.toUInt32 31)).toInt32) &&& 1431655765)) >>> (Int32.toUInt32 2 &&& Int32.toUInt32 31)).toInt32) &&& 858993459)) + ((Int32.toUInt32 (((a1 - (((Int32.toUInt32 a1 >>> (Int32.toUInt32 1 &&& Int32.toUInt32 31)).toInt32) &&& 1431655765)) &&& 858993459) + (((Int32.toUInt32 (a1 - (((Int32.toUInt32 a1 >>> (Int32.toUInt32 1 &&& Int32.toUInt32 31)).toInt32) &&& 1431655765)) >>> (Int32.toUInt32 2 &&& Int32.toUInt32 31)).toInt32) &&& 858993459)) >>> (Int32.toUInt32 4 &&& Int32.toUInt32 31)).toInt32)) &&& 252645135) + ((Int32.toUInt32 (((((a1 - (((Int32.toUInt32 a1 >>> (Int32.toUInt32 1 &&& Int32.toUInt32 31)).toInt32) &&& 1431655765)) &&& 858993459) + (((Int32.toUInt32 (a1 - (((Int32.toUInt32 a1 >>> (Int32.toUInt32 1 &&& Int32.toUInt32 31)).toInt32) &&& 1431655765)) >>> (Int32.toUInt32 2 &&& Int32.toUInt32 31)).toInt32) &&& 858993459)) + ((Int32.toUInt32 (((a1 - (((Int32.toUInt32 a1 >>> (Int32.toUInt32 1 &&& Int32.toUInt32 31)).toInt32) &&& 1431655765)) &&& 858993459) + (((Int32.toUInt32 (a1 - (((Int32.toUInt32 a1 >>> (Int32.toUInt32 1 &&& Int32.toUInt32 31)).toInt32) &&& 1431655765)) >>> (Int32.toUInt32 2 &&& Int32.toUInt32 31)).toInt32) &&& 858993459)) >>> (Int32.toUInt32 4 &&& Int32.toUInt32 31)).toInt32)) &&& 252645135) >>> (Int32.toUInt32 8 &&& Int32.toUInt32 31)).toInt32)))] hC d_in_bitCount_40 rfl (by decide) rfl ?_
  refine r_iload_n 0 hC d_in_bitCount_41 rfl ?_
  refine r_iload_n 0 hC d_in_bitCount_42 rfl ?_
  refine r_bipush (v := 16) hC d_in_bitCount_43 (by decide) ?_
  refine r_iushr hC d_in_bitCount_45 ?_
  refine r_iadd hC d_in_bitCount_46 ?_
  refine r_istore_n [(0, .int (((((((a1 - (((Int32.toUInt32 a1 >>> (Int32.toUInt32 1 &&& Int32.toUInt32 31)).toInt32) &&& 1431655765)) &&& 858993459) + (((Int32.toUInt32 (a1 - (((Int32.toUInt32 a1 >>> (Int32.toUInt32 1 &&& Int32.toUInt32 31)).toInt32) &&& 1431655765)) >>> (Int32.toUInt32 2 &&& Int32.toUInt32 31)).toInt32) &&& 858993459)) + ((Int32.toUInt32 (((a1 - (((Int32.toUInt32 a1 >>> (Int32.toUInt32 1 &&& Int32.toUInt32 31)).toInt32) &&& 1431655765)) &&& 858993459) + (((Int32.toUInt32 (a1 - (((Int32.toUInt32 a1 >>> (Int32.toUInt32 1 &&& Int32.toUInt32 31)).toInt32) &&& 1431655765)) >>> (Int32.toUInt32 2 &&& Int32.toUInt32 31)).toInt32) &&& 858993459)) >>> (Int32.toUInt32 4 &&& Int32.toUInt32 31)).toInt32)) &&& 252645135) + ((Int32.toUInt32 (((((a1 - (((Int32.toUInt32 a1 >>> (Int32.toUInt32 1 &&& Int32.toUInt32 31)).toInt32) &&& 1431655765)) &&& 858993459) + (((Int32.toUInt32 (a1 - (((Int32.toUInt32 a1 >>> (Int32.toUInt32 1 &&& Int32.toUInt32 31)).toInt32) &&& 1431655765)) >>> (Int32.toUInt32 2 &&& Int32.toUInt32 31)).toInt32) &&& 858993459)) + ((Int32.toUInt32 (((a1 - (((Int32.toUInt32 a1 >>> (Int32.toUInt32 1 &&& Int32.toUInt32 31)).toInt32) &&& 1431655765)) &&& 858993459) + (((Int32.toUInt32 (a1 - (((Int32.toUInt32 a1 >>> (Int32.toUInt32 1 &&& Int32.toUInt32 31)).toInt32) &&& 1431655765)) >>> (Int32.toUInt32 2 &&& Int32.toUInt32 31)).toInt32) &&& 858993459)) >>> (Int32.toUInt32 4 &&& Int32.toUInt32 31)).toInt32)) &&& 252645135) >>> (Int32.toUInt32 8 &&& Int32.toUInt32 31)).toInt32)) + ((Int32.toUInt32 ((((((a1 - (((Int32.toUInt32 a1 >>> (Int32.toUInt32 1 &&& Int32.toUInt32 31)).toInt32) &&& 1431655765)) &&& 858993459) + (((Int32.toUInt32 (a1 - (((Int32.toUInt32 a1 >>> (Int32.toUInt32 1 &&& Int32.toUInt32 31)).toInt32) &&& 1431655765)) >>> (Int32.toUInt32 2 &&& Int32.toUInt32 31)).toInt32) &&& 858993459)) + ((Int32.toUInt32 (((a1 - (((Int32.toUInt32 a1 >>> (Int32.toUInt32 1 &&& Int32.toUInt32 31)).toInt32) &&& 1431655765)) &&& 858993459) + (((Int32.toUInt32 (a1 - (((Int32.toUInt32 a1 >>> (Int32.toUInt32 1 &&& Int32.toUInt32 31)).toInt32) &&& 1431655765)) >>> (Int32.toUInt32 2 &&& Int32.toUInt32 31)).toInt32) &&& 858993459)) >>> (Int32.toUInt32 4 &&& Int32.toUInt32 31)).toInt32)) &&& 252645135) + ((Int32.toUInt32 (((((a1 - (((Int32.toUInt32 a1 >>> (Int32.toUInt32 1 &&& Int32.toUInt32 31)).toInt32) &&& 1431655765)) &&& 858993459) + (((Int32.toUInt32 (a1 - (((Int32.toUInt32 a1 >>> (Int32.toUInt32 1 &&& Int32.toUInt32 31)).toInt32) &&& 1431655765)) >>> (Int32.toUInt32 2 &&& Int32.toUInt32 31)).toInt32) &&& 858993459)) + ((Int32.toUInt32 (((a1 - (((Int32.toUInt32 a1 >>> (Int32.toUInt32 1 &&& Int32.toUInt32 31)).toInt32) &&& 1431655765)) &&& 858993459) + (((Int32.toUInt32 (a1 - (((Int32.toUInt32 a1 >>> (Int32.toUInt32 1 &&& Int32.toUInt32 31)).toInt32) &&& 1431655765)) >>> (Int32.toUInt32 2 &&& Int32.toUInt32 31)).toInt32) &&& 858993459)) >>> (Int32.toUInt32 4 &&& Int32.toUInt32 31)).toInt32)) &&& 252645135) >>> (Int32.toUInt32 8 &&& Int32.toUInt32 31)).toInt32)) >>> (Int32.toUInt32 16 &&& Int32.toUInt32 31)).toInt32)))] hC d_in_bitCount_47 rfl (by decide) rfl ?_
  refine r_iload_n 0 hC d_in_bitCount_48 rfl ?_
  refine r_bipush (v := 63) hC d_in_bitCount_49 (by decide) ?_
  refine r_iand hC d_in_bitCount_51 ?_
  exact r_iret hC hR d_in_bitCount_52 rfl rfl
/-! TideTableModel.quarter(I)I -/
def mo_quarter (a1 : Int32) : Int32 := (if a1 = 0 then 1000 else (if a1 = 1 then 995 else (if a1 = 2 then 981 else (if a1 = 3 then 957 else (if a1 = 4 then 924 else (if a1 = 5 then 882 else (if a1 = 6 then 831 else (if a1 = 7 then 773 else (if a1 = 8 then 707 else (if a1 = 9 then 634 else (if a1 = 10 then 556 else (if a1 = 11 then 471 else (if a1 = 12 then 383 else (if a1 = 13 then 290 else (if a1 = 14 then 195 else (if a1 = 15 then 98 else 0))))))))))))))))
set_option maxHeartbeats 4000000 in
set_option maxRecDepth 20000 in
theorem c_mo_quarter (G : tt_G) (st : tt_St) (a1 : Int32)  : tt_C y_mo_quarter prog_7_method_3_code 1 (some .int) 0 0 G [.int a1] st (some (.int (mo_quarter a1))) st := by
  refine tt_enter (α := Int32) (mk := fun r => (some (.int r), st)) (T := (mo_quarter a1)) (by decide +kernel) (Nat.le_of_ble_eq_true rfl) (fun κ hC hR => ?_)
  rw [mo_quarter]
  refine r_iload_n 0 hC d_mo_quarter_0 rfl ?_
  refine tt_ite (c := a1 = 0) (fun c_1_0 => ?_) (fun c_1_0 => ?_)
  ·
    refine r_tabIn (tgt := 80) (off := 79) hC d_mo_quarter_1 (by rw [c_1_0]; decide) (by rw [c_1_0]; decide) (by rw [c_1_0]; decide) (by decide) ?_
    refine r_sipush (v := 1000) hC d_mo_quarter_80 (by decide) ?_
    exact r_iret hC hR d_mo_quarter_83 rfl rfl
  ·
    refine tt_ite (c := a1 = 1) (fun c_1_1 => ?_) (fun c_1_1 => ?_)
    ·
      refine r_tabIn (tgt := 84) (off := 83) hC d_mo_quarter_1 (by rw [c_1_1]; decide) (by rw [c_1_1]; decide) (by rw [c_1_1]; decide) (by decide) ?_
      refine r_sipush (v := 995) hC d_mo_quarter_84 (by decide) ?_
      exact r_iret hC hR d_mo_quarter_87 rfl rfl
    ·
      refine tt_ite (c := a1 = 2) (fun c_1_2 => ?_) (fun c_1_2 => ?_)
      ·
        refine r_tabIn (tgt := 88) (off := 87) hC d_mo_quarter_1 (by rw [c_1_2]; decide) (by rw [c_1_2]; decide) (by rw [c_1_2]; decide) (by decide) ?_
        refine r_sipush (v := 981) hC d_mo_quarter_88 (by decide) ?_
        exact r_iret hC hR d_mo_quarter_91 rfl rfl
      ·
        refine tt_ite (c := a1 = 3) (fun c_1_3 => ?_) (fun c_1_3 => ?_)
        ·
          refine r_tabIn (tgt := 92) (off := 91) hC d_mo_quarter_1 (by rw [c_1_3]; decide) (by rw [c_1_3]; decide) (by rw [c_1_3]; decide) (by decide) ?_
          refine r_sipush (v := 957) hC d_mo_quarter_92 (by decide) ?_
          exact r_iret hC hR d_mo_quarter_95 rfl rfl
        ·
          refine tt_ite (c := a1 = 4) (fun c_1_4 => ?_) (fun c_1_4 => ?_)
          ·
            refine r_tabIn (tgt := 96) (off := 95) hC d_mo_quarter_1 (by rw [c_1_4]; decide) (by rw [c_1_4]; decide) (by rw [c_1_4]; decide) (by decide) ?_
            refine r_sipush (v := 924) hC d_mo_quarter_96 (by decide) ?_
            exact r_iret hC hR d_mo_quarter_99 rfl rfl
          ·
            refine tt_ite (c := a1 = 5) (fun c_1_5 => ?_) (fun c_1_5 => ?_)
            ·
              refine r_tabIn (tgt := 100) (off := 99) hC d_mo_quarter_1 (by rw [c_1_5]; decide) (by rw [c_1_5]; decide) (by rw [c_1_5]; decide) (by decide) ?_
              refine r_sipush (v := 882) hC d_mo_quarter_100 (by decide) ?_
              exact r_iret hC hR d_mo_quarter_103 rfl rfl
            ·
              refine tt_ite (c := a1 = 6) (fun c_1_6 => ?_) (fun c_1_6 => ?_)
              ·
                refine r_tabIn (tgt := 104) (off := 103) hC d_mo_quarter_1 (by rw [c_1_6]; decide) (by rw [c_1_6]; decide) (by rw [c_1_6]; decide) (by decide) ?_
                refine r_sipush (v := 831) hC d_mo_quarter_104 (by decide) ?_
                exact r_iret hC hR d_mo_quarter_107 rfl rfl
              ·
                refine tt_ite (c := a1 = 7) (fun c_1_7 => ?_) (fun c_1_7 => ?_)
                ·
                  refine r_tabIn (tgt := 108) (off := 107) hC d_mo_quarter_1 (by rw [c_1_7]; decide) (by rw [c_1_7]; decide) (by rw [c_1_7]; decide) (by decide) ?_
                  refine r_sipush (v := 773) hC d_mo_quarter_108 (by decide) ?_
                  exact r_iret hC hR d_mo_quarter_111 rfl rfl
                ·
                  refine tt_ite (c := a1 = 8) (fun c_1_8 => ?_) (fun c_1_8 => ?_)
                  ·
                    refine r_tabIn (tgt := 112) (off := 111) hC d_mo_quarter_1 (by rw [c_1_8]; decide) (by rw [c_1_8]; decide) (by rw [c_1_8]; decide) (by decide) ?_
                    refine r_sipush (v := 707) hC d_mo_quarter_112 (by decide) ?_
                    exact r_iret hC hR d_mo_quarter_115 rfl rfl
                  ·
                    refine tt_ite (c := a1 = 9) (fun c_1_9 => ?_) (fun c_1_9 => ?_)
                    ·
                      refine r_tabIn (tgt := 116) (off := 115) hC d_mo_quarter_1 (by rw [c_1_9]; decide) (by rw [c_1_9]; decide) (by rw [c_1_9]; decide) (by decide) ?_
                      refine r_sipush (v := 634) hC d_mo_quarter_116 (by decide) ?_
                      exact r_iret hC hR d_mo_quarter_119 rfl rfl
                    ·
                      refine tt_ite (c := a1 = 10) (fun c_1_10 => ?_) (fun c_1_10 => ?_)
                      ·
                        refine r_tabIn (tgt := 120) (off := 119) hC d_mo_quarter_1 (by rw [c_1_10]; decide) (by rw [c_1_10]; decide) (by rw [c_1_10]; decide) (by decide) ?_
                        refine r_sipush (v := 556) hC d_mo_quarter_120 (by decide) ?_
                        exact r_iret hC hR d_mo_quarter_123 rfl rfl
                      ·
                        refine tt_ite (c := a1 = 11) (fun c_1_11 => ?_) (fun c_1_11 => ?_)
                        ·
                          refine r_tabIn (tgt := 124) (off := 123) hC d_mo_quarter_1 (by rw [c_1_11]; decide) (by rw [c_1_11]; decide) (by rw [c_1_11]; decide) (by decide) ?_
                          refine r_sipush (v := 471) hC d_mo_quarter_124 (by decide) ?_
                          exact r_iret hC hR d_mo_quarter_127 rfl rfl
                        ·
                          refine tt_ite (c := a1 = 12) (fun c_1_12 => ?_) (fun c_1_12 => ?_)
                          ·
                            refine r_tabIn (tgt := 128) (off := 127) hC d_mo_quarter_1 (by rw [c_1_12]; decide) (by rw [c_1_12]; decide) (by rw [c_1_12]; decide) (by decide) ?_
                            refine r_sipush (v := 383) hC d_mo_quarter_128 (by decide) ?_
                            exact r_iret hC hR d_mo_quarter_131 rfl rfl
                          ·
                            refine tt_ite (c := a1 = 13) (fun c_1_13 => ?_) (fun c_1_13 => ?_)
                            ·
                              refine r_tabIn (tgt := 132) (off := 131) hC d_mo_quarter_1 (by rw [c_1_13]; decide) (by rw [c_1_13]; decide) (by rw [c_1_13]; decide) (by decide) ?_
                              refine r_sipush (v := 290) hC d_mo_quarter_132 (by decide) ?_
                              exact r_iret hC hR d_mo_quarter_135 rfl rfl
                            ·
                              refine tt_ite (c := a1 = 14) (fun c_1_14 => ?_) (fun c_1_14 => ?_)
                              ·
                                refine r_tabIn (tgt := 136) (off := 135) hC d_mo_quarter_1 (by rw [c_1_14]; decide) (by rw [c_1_14]; decide) (by rw [c_1_14]; decide) (by decide) ?_
                                refine r_sipush (v := 195) hC d_mo_quarter_136 (by decide) ?_
                                exact r_iret hC hR d_mo_quarter_139 rfl rfl
                              ·
                                refine tt_ite (c := a1 = 15) (fun c_1_15 => ?_) (fun c_1_15 => ?_)
                                ·
                                  refine r_tabIn (tgt := 140) (off := 139) hC d_mo_quarter_1 (by rw [c_1_15]; decide) (by rw [c_1_15]; decide) (by rw [c_1_15]; decide) (by decide) ?_
                                  refine r_bipush (v := 98) hC d_mo_quarter_140 (by decide) ?_
                                  exact r_iret hC hR d_mo_quarter_142 rfl rfl
                                ·
                                  have nc_1_0 := lv_neT (a := 0) c_1_0 (by decide)
                                  have nc_1_1 := lv_neT (a := 1) c_1_1 (by decide)
                                  have nc_1_2 := lv_neT (a := 2) c_1_2 (by decide)
                                  have nc_1_3 := lv_neT (a := 3) c_1_3 (by decide)
                                  have nc_1_4 := lv_neT (a := 4) c_1_4 (by decide)
                                  have nc_1_5 := lv_neT (a := 5) c_1_5 (by decide)
                                  have nc_1_6 := lv_neT (a := 6) c_1_6 (by decide)
                                  have nc_1_7 := lv_neT (a := 7) c_1_7 (by decide)
                                  have nc_1_8 := lv_neT (a := 8) c_1_8 (by decide)
                                  have nc_1_9 := lv_neT (a := 9) c_1_9 (by decide)
                                  have nc_1_10 := lv_neT (a := 10) c_1_10 (by decide)
                                  have nc_1_11 := lv_neT (a := 11) c_1_11 (by decide)
                                  have nc_1_12 := lv_neT (a := 12) c_1_12 (by decide)
                                  have nc_1_13 := lv_neT (a := 13) c_1_13 (by decide)
                                  have nc_1_14 := lv_neT (a := 14) c_1_14 (by decide)
                                  have nc_1_15 := lv_neT (a := 15) c_1_15 (by decide)
                                  refine r_tabOut (tgt := 143) hC d_mo_quarter_1 (by omega) (by decide) ?_
                                  refine r_iconst (v := 0) hC d_mo_quarter_143 (by decide) ?_
                                  exact r_iret hC hR d_mo_quarter_144 rfl rfl
/-! TideTableModel.within(III)Z -/
def mo_within (a1 : Int32) (a2 : Int32) (a3 : Int32) : Int32 := (if a1 < a2 then 0 else (if a3 < a1 then 0 else 1))
set_option maxHeartbeats 4000000 in
set_option maxRecDepth 20000 in
theorem c_mo_within (G : tt_G) (st : tt_St) (a1 : Int32) (a2 : Int32) (a3 : Int32)  : tt_C y_mo_within prog_7_method_4_code 3 (some .boolean) 0 0 G [.int a1, .int a2, .int a3] st (some (.int (mo_within a1 a2 a3))) st := by
  refine tt_enter (α := Int32) (mk := fun r => (some (.int r), st)) (T := (mo_within a1 a2 a3)) (by decide +kernel) (Nat.le_of_ble_eq_true rfl) (fun κ hC hR => ?_)
  rw [mo_within]
  refine r_iload_n 0 hC d_mo_within_0 rfl ?_
  refine r_iload_n 1 hC d_mo_within_1 rfl ?_
  refine r_icmp_lt (tgt := 14) hC d_mo_within_2 (by decide) (fun c_2 => ?_) (fun c_2 => ?_)
  ·
    refine r_iconst (v := 0) hC d_mo_within_14 (by decide) ?_
    exact r_iret hC hR d_mo_within_15 rfl rfl
  ·
    refine r_iload_n 0 hC d_mo_within_5 rfl ?_
    refine r_iload_n 2 hC d_mo_within_6 rfl ?_
    refine r_icmp_gt (tgt := 14) hC d_mo_within_7 (by decide) (fun c_7 => ?_) (fun c_7 => ?_)
    ·
      refine r_iconst (v := 0) hC d_mo_within_14 (by decide) ?_
      exact r_iret hC hR d_mo_within_15 rfl rfl
    ·
      refine r_iconst (v := 1) hC d_mo_within_10 (by decide) ?_
      refine r_goto (tgt := 15) hC d_mo_within_11 (by decide) ?_
      exact r_iret hC hR d_mo_within_15 rfl rfl
/-! TideTableModel.isIn(II)Z -/
def mo_isIn (a1 : Int32) (a2 : Int32) : Int32 := (if ((a1 >>> (a2 &&& 31)) &&& 1) = 1 then 1 else 0)
set_option maxHeartbeats 4000000 in
set_option maxRecDepth 20000 in
theorem c_mo_isIn (G : tt_G) (st : tt_St) (a1 : Int32) (a2 : Int32)  : tt_C y_mo_isIn prog_7_method_5_code 2 (some .boolean) 0 0 G [.int a1, .int a2] st (some (.int (mo_isIn a1 a2))) st := by
  refine tt_enter (α := Int32) (mk := fun r => (some (.int r), st)) (T := (mo_isIn a1 a2)) (by decide +kernel) (Nat.le_of_ble_eq_true rfl) (fun κ hC hR => ?_)
  rw [mo_isIn]
  refine r_iload_n 0 hC d_mo_isIn_0 rfl ?_
  refine r_iload_n 1 hC d_mo_isIn_1 rfl ?_
  refine r_ishr hC d_mo_isIn_2 ?_
  refine r_iconst (v := 1) hC d_mo_isIn_3 (by decide) ?_
  refine r_iand hC d_mo_isIn_4 ?_
  refine r_iconst (v := 1) hC d_mo_isIn_5 (by decide) ?_
  refine r_icmp_ne (tgt := 13) hC d_mo_isIn_6 (by decide) (fun c_6 => ?_) (fun c_6 => ?_)
  ·
    refine r_iconst (v := 0) hC d_mo_isIn_13 (by decide) ?_
    exact r_iret hC hR d_mo_isIn_14 rfl rfl
  ·
    refine r_iconst (v := 1) hC d_mo_isIn_9 (by decide) ?_
    refine r_goto (tgt := 14) hC d_mo_isIn_10 (by decide) ?_
    exact r_iret hC hR d_mo_isIn_14 rfl rfl
/-! TideTableModel.by(II)I -/
def mo_by (a1 : Int32) (a2 : Int32) : Int32 := (if 0 ≤ (a1 - a1 / a2 * a2) then (a1 / a2) else ((a1 / a2) - 1))
set_option maxHeartbeats 4000000 in
set_option maxRecDepth 20000 in
theorem c_mo_by (G : tt_G) (st : tt_St) (a1 : Int32) (a2 : Int32) (hd : ¬ a2 = 0) : tt_C y_mo_by prog_7_method_7_code 3 (some .int) 0 0 G [.int a1, .int a2] st (some (.int (mo_by a1 a2))) st := by
  refine tt_enter (α := Int32) (mk := fun r => (some (.int r), st)) (T := (mo_by a1 a2)) (by decide +kernel) (Nat.le_of_ble_eq_true rfl) (fun κ hC hR => ?_)
  rw [mo_by]
  refine r_iload_n 0 hC d_mo_by_0 rfl ?_
  refine r_iload_n 1 hC d_mo_by_1 rfl ?_
  refine r_idiv hC d_mo_by_2 hd ?_
  refine r_istore_n [(2, .int (a1 / a2)), (0, .int a1), (1, .int a2)] hC d_mo_by_3 rfl (by decide) rfl ?_
  refine r_iload_n 1 hC d_mo_by_4 rfl ?_
  refine r_iload_n 2 hC d_mo_by_5 rfl ?_
  refine r_irem hC d_mo_by_6 hd ?_
  refine r_if_ge (tgt := 16) hC d_mo_by_7 (by decide) (fun c_7 => ?_) (fun c_7 => ?_)
  ·
    refine r_iload_n 0 hC d_mo_by_16 rfl ?_
    exact r_iret hC hR d_mo_by_17 rfl rfl
  ·
    refine r_iload_n 0 hC d_mo_by_10 rfl ?_
    refine r_iconst (v := 1) hC d_mo_by_11 (by decide) ?_
    refine r_isub hC d_mo_by_12 ?_
    refine r_goto (tgt := 17) hC d_mo_by_13 (by decide) ?_
    exact r_iret hC hR d_mo_by_17 rfl rfl
/-! TideTableModel.kindBy(I)I -/
def mo_kindBy (a1 : Int32) : Int32 := (if a1 = 98 then 2 else (if a1 = 102 then 3 else (if a1 = 112 then 0 else (if a1 = 115 then 1 else (if a1 = 116 then 4 else (-10001))))))
set_option maxHeartbeats 4000000 in
set_option maxRecDepth 20000 in
theorem c_mo_kindBy (G : tt_G) (st : tt_St) (a1 : Int32)  : tt_C y_mo_kindBy prog_7_method_10_code 1 (some .int) 0 0 G [.int a1] st (some (.int (mo_kindBy a1))) st := by
  refine tt_enter (α := Int32) (mk := fun r => (some (.int r), st)) (T := (mo_kindBy a1)) (by decide +kernel) (Nat.le_of_ble_eq_true rfl) (fun κ hC hR => ?_)
  rw [mo_kindBy]
  refine r_iload_n 0 hC d_mo_kindBy_0 rfl ?_
  refine tt_ite (c := a1 = 98) (fun c_1_98 => ?_) (fun c_1_98 => ?_)
  ·
    refine r_look (tgt := 56) (off := 55) hC d_mo_kindBy_1 (by decide) (by rw [c_1_98]; decide) (by decide) ?_
    refine r_iconst (v := 2) hC d_mo_kindBy_56 (by decide) ?_
    exact r_iret hC hR d_mo_kindBy_57 rfl rfl
  ·
    refine tt_ite (c := a1 = 102) (fun c_1_102 => ?_) (fun c_1_102 => ?_)
    ·
      refine r_look (tgt := 58) (off := 57) hC d_mo_kindBy_1 (by decide) (by rw [c_1_102]; decide) (by decide) ?_
      refine r_iconst (v := 3) hC d_mo_kindBy_58 (by decide) ?_
      exact r_iret hC hR d_mo_kindBy_59 rfl rfl
    ·
      refine tt_ite (c := a1 = 112) (fun c_1_112 => ?_) (fun c_1_112 => ?_)
      ·
        refine r_look (tgt := 52) (off := 51) hC d_mo_kindBy_1 (by decide) (by rw [c_1_112]; decide) (by decide) ?_
        refine r_iconst (v := 0) hC d_mo_kindBy_52 (by decide) ?_
        exact r_iret hC hR d_mo_kindBy_53 rfl rfl
      ·
        refine tt_ite (c := a1 = 115) (fun c_1_115 => ?_) (fun c_1_115 => ?_)
        ·
          refine r_look (tgt := 54) (off := 53) hC d_mo_kindBy_1 (by decide) (by rw [c_1_115]; decide) (by decide) ?_
          refine r_iconst (v := 1) hC d_mo_kindBy_54 (by decide) ?_
          exact r_iret hC hR d_mo_kindBy_55 rfl rfl
        ·
          refine tt_ite (c := a1 = 116) (fun c_1_116 => ?_) (fun c_1_116 => ?_)
          ·
            refine r_look (tgt := 60) (off := 59) hC d_mo_kindBy_1 (by decide) (by rw [c_1_116]; decide) (by decide) ?_
            refine r_iconst (v := 4) hC d_mo_kindBy_60 (by decide) ?_
            exact r_iret hC hR d_mo_kindBy_61 rfl rfl
          ·
            refine r_look (tgt := 62) (off := 61) hC d_mo_kindBy_1 (by decide) ((lv_osw c_1_98 (by decide)).trans ((lv_osw c_1_102 (by decide)).trans ((lv_osw c_1_112 (by decide)).trans ((lv_osw c_1_115 (by decide)).trans ((lv_osw c_1_116 (by decide)).trans rfl))))) (by decide) ?_
            refine r_sipush (v := (-10001)) hC d_mo_kindBy_62 (by decide) ?_
            exact r_iret hC hR d_mo_kindBy_65 rfl rfl
/-! TideTableModel.could(II)Z -/
def mo_could (a1 : Int32) (a2 : Int32) : Int32 := (if a2 = 0 then (if a1 = 1 then 1 else (if a1 = 2 then 1 else 0)) else (if a2 = 1 then (if a1 = 2 then 1 else 0) else (if a2 = 2 then (if a1 = 3 then 1 else 0) else (if a1 = 4 then 1 else 0))))
set_option maxHeartbeats 4000000 in
set_option maxRecDepth 20000 in
theorem c_mo_could (G : tt_G) (st : tt_St) (a1 : Int32) (a2 : Int32)  : tt_C y_mo_could prog_7_method_61_code 2 (some .boolean) 0 0 G [.int a1, .int a2] st (some (.int (mo_could a1 a2))) st := by
  refine tt_enter (α := Int32) (mk := fun r => (some (.int r), st)) (T := (mo_could a1 a2)) (by decide +kernel) (Nat.le_of_ble_eq_true rfl) (fun κ hC hR => ?_)
  rw [mo_could]
  refine r_iload_n 1 hC d_mo_could_0 rfl ?_
  refine tt_ite (c := a2 = 0) (fun c_1_0 => ?_) (fun c_1_0 => ?_)
  ·
    refine r_tabIn (tgt := 28) (off := 27) hC d_mo_could_1 (by rw [c_1_0]; decide) (by rw [c_1_0]; decide) (by rw [c_1_0]; decide) (by decide) ?_
    refine r_iload_n 0 hC d_mo_could_28 rfl ?_
    refine r_iconst (v := 1) hC d_mo_could_29 (by decide) ?_
    refine r_icmp_eq (tgt := 38) hC d_mo_could_30 (by decide) (fun c_30 => ?_) (fun c_30 => ?_)
    ·
      refine r_iconst (v := 1) hC d_mo_could_38 (by decide) ?_
      refine r_goto (tgt := 43) hC d_mo_could_39 (by decide) ?_
      exact r_iret hC hR d_mo_could_43 rfl rfl
    ·
      refine r_iload_n 0 hC d_mo_could_33 rfl ?_
      refine r_iconst (v := 2) hC d_mo_could_34 (by decide) ?_
      refine r_icmp_ne (tgt := 42) hC d_mo_could_35 (by decide) (fun c_35 => ?_) (fun c_35 => ?_)
      ·
        refine r_iconst (v := 0) hC d_mo_could_42 (by decide) ?_
        exact r_iret hC hR d_mo_could_43 rfl rfl
      ·
        refine r_iconst (v := 1) hC d_mo_could_38 (by decide) ?_
        refine r_goto (tgt := 43) hC d_mo_could_39 (by decide) ?_
        exact r_iret hC hR d_mo_could_43 rfl rfl
  ·
    refine tt_ite (c := a2 = 1) (fun c_1_1 => ?_) (fun c_1_1 => ?_)
    ·
      refine r_tabIn (tgt := 44) (off := 43) hC d_mo_could_1 (by rw [c_1_1]; decide) (by rw [c_1_1]; decide) (by rw [c_1_1]; decide) (by decide) ?_
      refine r_iload_n 0 hC d_mo_could_44 rfl ?_
      refine r_iconst (v := 2) hC d_mo_could_45 (by decide) ?_
      refine r_icmp_ne (tgt := 53) hC d_mo_could_46 (by decide) (fun c_46 => ?_) (fun c_46 => ?_)
      ·
        refine r_iconst (v := 0) hC d_mo_could_53 (by decide) ?_
        exact r_iret hC hR d_mo_could_54 rfl rfl
      ·
        refine r_iconst (v := 1) hC d_mo_could_49 (by decide) ?_
        refine r_goto (tgt := 54) hC d_mo_could_50 (by decide) ?_
        exact r_iret hC hR d_mo_could_54 rfl rfl
    ·
      refine tt_ite (c := a2 = 2) (fun c_1_2 => ?_) (fun c_1_2 => ?_)
      ·
        refine r_tabIn (tgt := 55) (off := 54) hC d_mo_could_1 (by rw [c_1_2]; decide) (by rw [c_1_2]; decide) (by rw [c_1_2]; decide) (by decide) ?_
        refine r_iload_n 0 hC d_mo_could_55 rfl ?_
        refine r_iconst (v := 3) hC d_mo_could_56 (by decide) ?_
        refine r_icmp_ne (tgt := 64) hC d_mo_could_57 (by decide) (fun c_57 => ?_) (fun c_57 => ?_)
        ·
          refine r_iconst (v := 0) hC d_mo_could_64 (by decide) ?_
          exact r_iret hC hR d_mo_could_65 rfl rfl
        ·
          refine r_iconst (v := 1) hC d_mo_could_60 (by decide) ?_
          refine r_goto (tgt := 65) hC d_mo_could_61 (by decide) ?_
          exact r_iret hC hR d_mo_could_65 rfl rfl
      ·
        have nc_1_0 := lv_neT (a := 0) c_1_0 (by decide)
        have nc_1_1 := lv_neT (a := 1) c_1_1 (by decide)
        have nc_1_2 := lv_neT (a := 2) c_1_2 (by decide)
        refine r_tabOut (tgt := 66) hC d_mo_could_1 (by omega) (by decide) ?_
        refine r_iload_n 0 hC d_mo_could_66 rfl ?_
        refine r_iconst (v := 4) hC d_mo_could_67 (by decide) ?_
        refine r_icmp_ne (tgt := 75) hC d_mo_could_68 (by decide) (fun c_68 => ?_) (fun c_68 => ?_)
        ·
          refine r_iconst (v := 0) hC d_mo_could_75 (by decide) ?_
          exact r_iret hC hR d_mo_could_76 rfl rfl
        ·
          refine r_iconst (v := 1) hC d_mo_could_71 (by decide) ?_
          refine r_goto (tgt := 76) hC d_mo_could_72 (by decide) ?_
          exact r_iret hC hR d_mo_could_76 rfl rfl
/-! TideTableModel.tickBy(I)I -/
def mo_tickBy (a1 : Int32) : Int32 := (if a1 = 0 then 0 else (if a1 = 1 then 7 else (if a1 = 2 then 50 else (if a1 = 3 then 144 else (if a1 = 4 then 400 else 1439)))))
set_option maxHeartbeats 4000000 in
set_option maxRecDepth 20000 in
theorem c_mo_tickBy (G : tt_G) (st : tt_St) (a1 : Int32)  : tt_C y_mo_tickBy prog_7_method_76_code 1 (some .int) 0 0 G [.int a1] st (some (.int (mo_tickBy a1))) st := by
  refine tt_enter (α := Int32) (mk := fun r => (some (.int r), st)) (T := (mo_tickBy a1)) (by decide +kernel) (Nat.le_of_ble_eq_true rfl) (fun κ hC hR => ?_)
  rw [mo_tickBy]
  refine r_iload_n 0 hC d_mo_tickBy_0 rfl ?_
  refine tt_ite (c := a1 = 0) (fun c_1_0 => ?_) (fun c_1_0 => ?_)
  ·
    refine r_tabIn (tgt := 36) (off := 35) hC d_mo_tickBy_1 (by rw [c_1_0]; decide) (by rw [c_1_0]; decide) (by rw [c_1_0]; decide) (by decide) ?_
    refine r_iconst (v := 0) hC d_mo_tickBy_36 (by decide) ?_
    exact r_iret hC hR d_mo_tickBy_37 rfl rfl
  ·
    refine tt_ite (c := a1 = 1) (fun c_1_1 => ?_) (fun c_1_1 => ?_)
    ·
      refine r_tabIn (tgt := 38) (off := 37) hC d_mo_tickBy_1 (by rw [c_1_1]; decide) (by rw [c_1_1]; decide) (by rw [c_1_1]; decide) (by decide) ?_
      refine r_bipush (v := 7) hC d_mo_tickBy_38 (by decide) ?_
      exact r_iret hC hR d_mo_tickBy_40 rfl rfl
    ·
      refine tt_ite (c := a1 = 2) (fun c_1_2 => ?_) (fun c_1_2 => ?_)
      ·
        refine r_tabIn (tgt := 41) (off := 40) hC d_mo_tickBy_1 (by rw [c_1_2]; decide) (by rw [c_1_2]; decide) (by rw [c_1_2]; decide) (by decide) ?_
        refine r_bipush (v := 50) hC d_mo_tickBy_41 (by decide) ?_
        exact r_iret hC hR d_mo_tickBy_43 rfl rfl
      ·
        refine tt_ite (c := a1 = 3) (fun c_1_3 => ?_) (fun c_1_3 => ?_)
        ·
          refine r_tabIn (tgt := 44) (off := 43) hC d_mo_tickBy_1 (by rw [c_1_3]; decide) (by rw [c_1_3]; decide) (by rw [c_1_3]; decide) (by decide) ?_
          refine r_sipush (v := 144) hC d_mo_tickBy_44 (by decide) ?_
          exact r_iret hC hR d_mo_tickBy_47 rfl rfl
        ·
          refine tt_ite (c := a1 = 4) (fun c_1_4 => ?_) (fun c_1_4 => ?_)
          ·
            refine r_tabIn (tgt := 48) (off := 47) hC d_mo_tickBy_1 (by rw [c_1_4]; decide) (by rw [c_1_4]; decide) (by rw [c_1_4]; decide) (by decide) ?_
            refine r_sipush (v := 400) hC d_mo_tickBy_48 (by decide) ?_
            exact r_iret hC hR d_mo_tickBy_51 rfl rfl
          ·
            have nc_1_0 := lv_neT (a := 0) c_1_0 (by decide)
            have nc_1_1 := lv_neT (a := 1) c_1_1 (by decide)
            have nc_1_2 := lv_neT (a := 2) c_1_2 (by decide)
            have nc_1_3 := lv_neT (a := 3) c_1_3 (by decide)
            have nc_1_4 := lv_neT (a := 4) c_1_4 (by decide)
            refine r_tabOut (tgt := 52) hC d_mo_tickBy_1 (by omega) (by decide) ?_
            refine r_sipush (v := 1439) hC d_mo_tickBy_52 (by decide) ?_
            exact r_iret hC hR d_mo_tickBy_55 rfl rfl
/-! TideTableModel.size(I)I -/
def mo_size_l4 (a1 : Int32) : Nat → Nat → Int32 → Int32
  | 0, j, x1 => x1
  | n + 1, j, x1 => (mo_size_l4 a1 n (j + 1) (x1 + ((a1 >>> ((nI j) &&& 31)) &&& 1)))
set_option maxHeartbeats 4000000 in
set_option maxRecDepth 20000 in
theorem l_mo_size_4 {α : Type} {G : tt_G} {κ : tt_X α} {T : α} (hC : tt_Cx G κ prog_7_method_6_code "TideTableModel" 3 0 0) (a1 : Int32) (st : tt_St)  : ∀ (n j : Nat) (x1 : Int32), j + n = 16 → tt_V G κ T st 24 [(1, .int (mo_size_l4 a1 n j x1))] [] → tt_V G κ T st 4 [(0, .int a1), (1, .int x1), (2, .int (nI j))] [] := by
  intro n
  induction n with
  | zero =>
    intro j x1 hj k
    refine r_iload_n 2 hC d_mo_size_4 rfl ?_
    refine r_bipush (v := 16) hC d_mo_size_5 (by decide) ?_
    refine t_icmp_ge (tgt := 24) hC d_mo_size_7 (by decide) (nI_le (a := 16) (by omega) (by omega)) ?_
    exact tt_cast [1] rfl rfl k
  | succ n ih =>
    intro j x1 hj k
    refine r_iload_n 2 hC d_mo_size_4 rfl ?_
    refine r_bipush (v := 16) hC d_mo_size_5 (by decide) ?_
    refine f_icmp_ge (tgt := 24) hC d_mo_size_7 (by decide) (nI_ge (a := j) (b := 16) (by omega) (by omega)) ?_
    refine r_iload_n 1 hC d_mo_size_10 rfl ?_
    refine r_iload_n 0 hC d_mo_size_11 rfl ?_
    refine r_iload_n 2 hC d_mo_size_12 rfl ?_
    refine r_ishr hC d_mo_size_13 ?_
    refine r_iconst (v := 1) hC d_mo_size_14 (by decide) ?_
    refine r_iand hC d_mo_size_15 ?_
    refine r_iadd hC d_mo_size_16 ?_
    refine r_istore_n [(1, .int (x1 + ((a1 >>> ((nI j) &&& 31)) &&& 1))), (0, .int a1), (2, .int (nI j))] hC d_mo_size_17 rfl (by decide) rfl ?_
    refine r_iinc 2 (nI (j + 1)) [(2, .int (nI (j + 1))), (1, .int (x1 + ((a1 >>> ((nI j) &&& 31)) &&& 1))), (0, .int a1)] hC d_mo_size_18 rfl (by rw [nI_succ]; rfl) (by decide) rfl ?_
    refine r_goto (tgt := 4) hC d_mo_size_21 (by decide) ?_
    exact tt_cast [2, 1, 0] rfl rfl (ih (j + 1) (x1 + ((a1 >>> ((nI j) &&& 31)) &&& 1)) (by omega) (by simpa only [mo_size_l4] using k))
def mo_size (a1 : Int32) : Int32 := (mo_size_l4 a1 16 0 0)
set_option maxHeartbeats 4000000 in
set_option maxRecDepth 20000 in
theorem c_mo_size (G : tt_G) (st : tt_St) (a1 : Int32)  : tt_C y_mo_size prog_7_method_6_code 3 (some .int) 0 0 G [.int a1] st (some (.int (mo_size a1))) st := by
  refine tt_enter (α := Int32) (mk := fun r => (some (.int r), st)) (T := (mo_size a1)) (by decide +kernel) (Nat.le_of_ble_eq_true rfl) (fun κ hC hR => ?_)
  rw [mo_size]
  refine r_iconst (v := 0) hC d_mo_size_0 (by decide) ?_
  refine r_istore_n [(1, .int 0), (0, .int a1)] hC d_mo_size_1 rfl (by decide) rfl ?_
  refine r_iconst (v := 0) hC d_mo_size_2 (by decide) ?_
  refine r_istore_n [(2, .int 0), (1, .int 0), (0, .int a1)] hC d_mo_size_3 rfl (by decide) rfl ?_
  refine tt_cast [2, 1, 0] rfl rfl (l_mo_size_4 hC a1 st  16 0 0 (by omega)  ?_)
  refine r_iload_n 0 hC d_mo_size_24 rfl ?_
  exact r_iret hC hR d_mo_size_25 rfl rfl

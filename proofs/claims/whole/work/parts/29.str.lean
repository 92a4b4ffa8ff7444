theorem fw_sr_38 : Cond.fieldLink "java/lang/String" 38 "java/lang/String" "COMPACT_STRINGS" "Z" ∈ tt_good := List.mem_of_getElem? (i := 230) (by decide +kernel)
theorem fw_sr_15 : Cond.fieldLink "java/lang/String" 15 "java/lang/String" "coder" "B" ∈ tt_good := List.mem_of_getElem? (i := 949) (by decide +kernel)
theorem fw_sr_9 : Cond.fieldLink "java/lang/String" 9 "java/lang/String" "value" "[B" ∈ tt_good := List.mem_of_getElem? (i := 950) (by decide +kernel)
/-! java/lang/String.isLatin1()Z -/
def sr_isLatin1  : Int32 := 1
set_option maxHeartbeats 4000000 in
set_option maxRecDepth 20000 in
theorem c_sr_isLatin1 (G : tt_G) (st : tt_St)   : tt_C y_sr_isLatin1 prog_11_method_154_code 1 (some .boolean) 0 0 G [.ref (tt_sa G 3)] st (some (.int sr_isLatin1)) st := by
  refine tt_enter_pi (T := sr_isLatin1) (by decide +kernel) (Nat.le_of_ble_eq_true rfl) (fun κ hC hR => ?_)
  rw [sr_isLatin1]
  refine r_getsC hC d_sr_isLatin1_0 fw_sr_38 ?_
  refine f_if_eq (tgt := 17) hC d_sr_isLatin1_3 (by decide) (by decide) ?_
  refine r_aload_n 0 hC d_sr_isLatin1_6 rfl ?_
  refine r_getSc hC d_sr_isLatin1_7 fw_sr_15 ?_
  refine f_if_ne (tgt := 17) hC d_sr_isLatin1_10 (by decide) rfl ?_
  refine r_iconst (v := 1) hC d_sr_isLatin1_13 (by decide) ?_
  refine r_goto (tgt := 18) hC d_sr_isLatin1_14 (by decide) ?_
  exact r_iret_pi hC hR d_sr_isLatin1_18 rfl
/-! java/lang/String.coder()B -/
def sr_coder  : Int32 := 0
set_option maxHeartbeats 4000000 in
set_option maxRecDepth 20000 in
theorem c_sr_coder (G : tt_G) (st : tt_St)   : tt_C y_sr_coder prog_11_method_152_code 1 (some .byte) 0 0 G [.ref (tt_sa G 3)] st (some (.int sr_coder)) st := by
  refine tt_enter_pi (T := sr_coder) (by decide +kernel) (Nat.le_of_ble_eq_true rfl) (fun κ hC hR => ?_)
  rw [sr_coder]
  refine r_getsC hC d_sr_coder_0 fw_sr_38 ?_
  refine f_if_eq (tgt := 13) hC d_sr_coder_3 (by decide) (by decide) ?_
  refine r_aload_n 0 hC d_sr_coder_6 rfl ?_
  refine r_getSc hC d_sr_coder_7 fw_sr_15 ?_
  refine r_goto (tgt := 14) hC d_sr_coder_10 (by decide) ?_
  exact r_iret_pi hC hR d_sr_coder_14 rfl
/-! java/lang/String.length()I -/
def sr_length  : Int32 := (5 >>> (sr_coder &&& 31))
set_option maxHeartbeats 4000000 in
set_option maxRecDepth 20000 in
theorem c_sr_length (G : tt_G) (st : tt_St)   : tt_C y_sr_length prog_11_method_54_code 1 (some .int) 1 20 G [.ref (tt_sa G 3)] st (some (.int sr_length)) st := by
  refine tt_enter_pi (T := sr_length) (by decide +kernel) (Nat.le_of_ble_eq_true rfl) (fun κ hC hR => ?_)
  rw [sr_length]
  refine r_aload_n 0 hC d_sr_length_0 rfl ?_
  refine r_getSv hC d_sr_length_1 fw_sr_9 ?_
  refine r_slen hC d_sr_length_4 ?_
  refine r_aload_n 0 hC d_sr_length_5 rfl ?_
  refine r_callVS (rest := [.int 5]) (stk1 := [.int sr_coder, .int 5]) hC d_sr_length_6 (c_sr_coder G st) mw_sr_coder mi_sr_coder mz_sr_coder ml_sr_335 rfl rfl rfl (Nat.le_of_ble_eq_true rfl) rfl ?_
  refine r_ishr hC d_sr_length_9 ?_
  exact r_iret_pi hC hR d_sr_length_10 rfl
/-! java/lang/StringLatin1.canEncode(I)Z -/
def sl_canEncode (a1 : Int32) : Int32 := (if a1 < 0 then 0 else (if 255 < a1 then 0 else 1))
set_option maxHeartbeats 4000000 in
set_option maxRecDepth 20000 in
theorem c_sl_canEncode (G : tt_G) (st : tt_St) (a1 : Int32)  : tt_C y_sl_canEncode prog_12_method_4_code 1 (some .boolean) 0 0 G [.int a1] st (some (.int (sl_canEncode a1))) st := by
  refine tt_enter_pi (T := (sl_canEncode a1)) (by decide +kernel) (Nat.le_of_ble_eq_true rfl) (fun κ hC hR => ?_)
  rw [sl_canEncode]
  refine r_iload_n 0 hC d_sl_canEncode_0 rfl ?_
  refine r_if_lt (tgt := 15) hC d_sl_canEncode_1 (by decide) (fun c_1 => ?_) (fun c_1 => ?_)
  ·
    refine r_iconst (v := 0) hC d_sl_canEncode_15 (by decide) ?_
    exact r_iret_pi hC hR d_sl_canEncode_16 rfl
  ·
    refine r_iload_n 0 hC d_sl_canEncode_4 rfl ?_
    refine r_sipush (v := 255) hC d_sl_canEncode_5 (by decide) ?_
    refine r_icmp_gt (tgt := 15) hC d_sl_canEncode_8 (by decide) (fun c_8 => ?_) (fun c_8 => ?_)
    ·
      refine r_iconst (v := 0) hC d_sl_canEncode_15 (by decide) ?_
      exact r_iret_pi hC hR d_sl_canEncode_16 rfl
    ·
      refine r_iconst (v := 1) hC d_sl_canEncode_11 (by decide) ?_
      refine r_goto (tgt := 16) hC d_sl_canEncode_12 (by decide) ?_
      exact r_iret_pi hC hR d_sl_canEncode_16 rfl
/-! java/lang/StringLatin1.indexOfChar([BIII)I -/
def sl_indexOfChar_l7 (a2 : Int32) (a3 : Int32) (a4 : Int32) (x4 : Int32) : Nat → Nat → Int32
  | 0, j => (-1)
  | n + 1, j => (if (tt_kv (Int32.toNatClampNeg (nI j))) = x4 then (nI j) else (sl_indexOfChar_l7 a2 a3 a4 x4 n (j + 1)))
set_option maxHeartbeats 4000000 in
set_option maxRecDepth 20000 in
theorem l_sl_indexOfChar_7 {G : tt_G} {κ : tt_X (Int32)} (hC : tt_Cx G κ prog_12_method_23_code "java/lang/StringLatin1" 6 0 0) (a2 : Int32) (a3 : Int32) (a4 : Int32) (x4 : Int32) (st : tt_St)  (hR : tt_Rt G κ (some .int) (fun r => (some (.int r), st))) (hf : a3 = 0) (ht : a4 = 5) : ∀ (n j : Nat), j + n = 5 → tt_V G κ (sl_indexOfChar_l7 a2 a3 a4 x4 n j) st 7 [(0, .ref (tt_sa G 4)), (3, .int a4), (4, .int x4), (5, .int (nI j))] [] := by
  intro n
  induction n with
  | zero =>
    intro j hj
    rw [sl_indexOfChar_l7]
    refine r_iload 3 hC d_sl_indexOfChar_7 rfl ?_
    refine r_iload_n 1 hC d_sl_indexOfChar_9 rfl ?_
    refine t_icmp_ge (tgt := 31) hC d_sl_indexOfChar_10 (by decide) (by rw [ht]; exact nI_le (a := 5) (by omega) (by omega)) ?_
    refine r_iconst (v := (-1)) hC d_sl_indexOfChar_31 (by decide) ?_
    exact r_iret_pi hC hR d_sl_indexOfChar_32 rfl
  | succ n ih =>
    intro j hj
    rw [sl_indexOfChar_l7]
    refine r_iload 3 hC d_sl_indexOfChar_7 rfl ?_
    refine r_iload_n 1 hC d_sl_indexOfChar_9 rfl ?_
    refine f_icmp_ge (tgt := 31) hC d_sl_indexOfChar_10 (by decide) (by rw [ht]; exact nI_ge (a := j) (b := 5) (by omega) (by omega)) ?_
    refine r_aload_n 0 hC d_sl_indexOfChar_13 rfl ?_
    refine r_iload 3 hC d_sl_indexOfChar_14 rfl ?_
    refine r_sbald hC d_sl_indexOfChar_16 (vp_in_nI (by omega) (by omega)) ?_
    refine r_iload 2 hC d_sl_indexOfChar_17 rfl ?_
    refine r_icmp_ne (tgt := 25) hC d_sl_indexOfChar_19 (by decide) (fun c_19 => ?_) (fun c_19 => ?_)
    ·
      refine r_iinc 3 (nI (j + 1)) [(5, .int (nI (j + 1))), (0, .ref (tt_sa G 4)), (3, .int a4), (4, .int x4)] hC d_sl_indexOfChar_25 rfl (by rw [nI_succ]; rfl) (by decide) rfl ?_
      refine r_goto (tgt := 7) hC d_sl_indexOfChar_28 (by decide) ?_
      exact tt_cast [1, 2, 3, 0] rfl rfl (ih (j + 1) (by omega))
    ·
      refine r_iload 3 hC d_sl_indexOfChar_22 rfl ?_
      exact r_iret_pi hC hR d_sl_indexOfChar_24 rfl
def sl_indexOfChar (a2 : Int32) (a3 : Int32) (a4 : Int32) : Int32 := (sl_indexOfChar_l7 a2 a3 a4 (Int8.toInt32 (Int32.toInt8 a2)) 5 0)
set_option maxHeartbeats 4000000 in
set_option maxRecDepth 20000 in
theorem c_sl_indexOfChar (G : tt_G) (st : tt_St) (a2 : Int32) (a3 : Int32) (a4 : Int32) (hf : a3 = 0) (ht : a4 = 5) : tt_C y_sl_indexOfChar prog_12_method_23_code 6 (some .int) 0 0 G [.ref (tt_sa G 4), .int a2, .int a3, .int a4] st (some (.int (sl_indexOfChar a2 a3 a4))) st := by
  refine tt_enter_pi (T := (sl_indexOfChar a2 a3 a4)) (by decide +kernel) (Nat.le_of_ble_eq_true rfl) (fun κ hC hR => ?_)
  rw [sl_indexOfChar]
  refine r_iload_n 1 hC d_sl_indexOfChar_0 rfl ?_
  refine r_i2b hC d_sl_indexOfChar_1 ?_
  refine r_istore [(4, .int (Int8.toInt32 (Int32.toInt8 a2))), (0, .ref (tt_sa G 4)), (1, .int a2), (2, .int a3), (3, .int a4)] hC d_sl_indexOfChar_2 (by decide) rfl ?_
  refine r_iload_n 3 hC d_sl_indexOfChar_4 rfl ?_
  refine r_istore [(5, .int a3), (4, .int (Int8.toInt32 (Int32.toInt8 a2))), (0, .ref (tt_sa G 4)), (1, .int a2), (2, .int a3), (3, .int a4)] hC d_sl_indexOfChar_5 (by decide) rfl ?_
  exact tt_cast [2, 5, 1, 0] (by rw [hf]; rfl) rfl (l_sl_indexOfChar_7 hC a2 a3 a4 (Int8.toInt32 (Int32.toInt8 a2)) st hR hf ht 5 0  (by omega))
/-! java/lang/StringLatin1.indexOf([BIII)I -/
def sl_indexOf (a2 : Int32) (a3 : Int32) (a4 : Int32) : Int32 := (if (sl_canEncode a2) = 0 then (-1) else (if (ma_max a3 0) < (ma_min a4 5) then (sl_indexOfChar a2 (ma_max a3 0) (ma_min a4 5)) else (-1)))
set_option maxHeartbeats 4000000 in
set_option maxRecDepth 20000 in
theorem c_sl_indexOf (G : tt_G) (st : tt_St) (a2 : Int32) (a3 : Int32) (a4 : Int32) (hf : a3 = 0) (ht : a4 = 5) : tt_C y_sl_indexOf prog_12_method_22_code 4 (some .int) 1 25 G [.ref (tt_sa G 4), .int a2, .int a3, .int a4] st (some (.int (sl_indexOf a2 a3 a4))) st := by
  refine tt_enter_pi (T := (sl_indexOf a2 a3 a4)) (by decide +kernel) (Nat.le_of_ble_eq_true rfl) (fun κ hC hR => ?_)
  rw [sl_indexOf]
  refine r_iload_n 1 hC d_sl_indexOf_0 rfl ?_
  refine r_callS (rest := []) (stk1 := [.int (sl_canEncode a2)]) hC d_sl_indexOf_1 (c_sl_canEncode G st a2) mw_sl_canEncode ms_sl_canEncode ml_sl_88 rfl rfl rfl (Nat.le_of_ble_eq_true rfl) rfl ?_
  refine r_if_ne (tgt := 9) hC d_sl_indexOf_4 (by decide) (fun c_4 => ?_) (fun c_4 => ?_)
  ·
    refine r_iload_n 2 hC d_sl_indexOf_9 rfl ?_
    refine r_iconst (v := 0) hC d_sl_indexOf_10 (by decide) ?_
    refine r_callS (rest := []) (stk1 := [.int (ma_max a3 0)]) hC d_sl_indexOf_11 (c_ma_max G st a3 0) mw_ma_max ms_ma_max ml_sl_92 rfl rfl rfl (Nat.le_of_ble_eq_true rfl) rfl ?_
    refine r_istore_n [(2, .int (ma_max a3 0)), (0, .ref (tt_sa G 4)), (1, .int a2), (3, .int a4)] hC d_sl_indexOf_14 rfl (by decide) rfl ?_
    refine r_iload_n 3 hC d_sl_indexOf_15 rfl ?_
    refine r_aload_n 1 hC d_sl_indexOf_16 rfl ?_
    refine r_slen hC d_sl_indexOf_17 ?_
    refine r_callS (rest := []) (stk1 := [.int (ma_min a4 5)]) hC d_sl_indexOf_18 (c_ma_min G st a4 5) mw_ma_min ms_ma_min ml_sl_38 rfl rfl rfl (Nat.le_of_ble_eq_true rfl) rfl ?_
    refine r_istore_n [(3, .int (ma_min a4 5)), (2, .int (ma_max a3 0)), (0, .ref (tt_sa G 4)), (1, .int a2)] hC d_sl_indexOf_21 rfl (by decide) rfl ?_
    refine r_iload_n 1 hC d_sl_indexOf_22 rfl ?_
    refine r_iload_n 0 hC d_sl_indexOf_23 rfl ?_
    refine r_icmp_lt (tgt := 29) hC d_sl_indexOf_24 (by decide) (fun c_24 => ?_) (fun c_24 => ?_)
    ·
      refine r_aload_n 2 hC d_sl_indexOf_29 rfl ?_
      refine r_iload_n 3 hC d_sl_indexOf_30 rfl ?_
      refine r_iload_n 1 hC d_sl_indexOf_31 rfl ?_
      refine r_iload_n 0 hC d_sl_indexOf_32 rfl ?_
      refine r_callS (rest := []) (stk1 := [.int (sl_indexOfChar a2 (ma_max a3 0) (ma_min a4 5))]) hC d_sl_indexOf_33 (c_sl_indexOfChar G st a2 (ma_max a3 0) (ma_min a4 5) (by rw [hf]; rfl) (by rw [ht]; rfl)) mw_sl_indexOfChar ms_sl_indexOfChar ml_sl_95 rfl rfl rfl (Nat.le_of_ble_eq_true rfl) rfl ?_
      exact r_iret_pi hC hR d_sl_indexOf_36 rfl
    ·
      refine r_iconst (v := (-1)) hC d_sl_indexOf_27 (by decide) ?_
      exact r_iret_pi hC hR d_sl_indexOf_28 rfl
  ·
    refine r_iconst (v := (-1)) hC d_sl_indexOf_7 (by decide) ?_
    exact r_iret_pi hC hR d_sl_indexOf_8 rfl
/-! java/lang/String.indexOf(II)I -/
def sr_indexOf2 (a1 : Int32) (a2 : Int32) : Int32 := (sl_indexOf a1 a2 sr_length)
set_option maxHeartbeats 4000000 in
set_option maxRecDepth 20000 in
theorem c_sr_indexOf2 (G : tt_G) (st : tt_St) (a1 : Int32) (a2 : Int32) (hf : a2 = 0) : tt_C y_sr_indexOf2 prog_11_method_80_code 3 (some .int) 2 48 G [.ref (tt_sa G 3), .int a1, .int a2] st (some (.int (sr_indexOf2 a1 a2))) st := by
  refine tt_enter_pi (T := (sr_indexOf2 a1 a2)) (by decide +kernel) (Nat.le_of_ble_eq_true rfl) (fun κ hC hR => ?_)
  rw [sr_indexOf2]
  refine r_aload_n 0 hC d_sr_indexOf2_0 rfl ?_
  refine r_callVS (rest := []) (stk1 := [.int sr_isLatin1]) hC d_sr_indexOf2_1 (c_sr_isLatin1 G st) mw_sr_isLatin1 mi_sr_isLatin1 mz_sr_isLatin1 ml_sr_492 rfl rfl rfl (Nat.le_of_ble_eq_true rfl) rfl ?_
  refine f_if_eq (tgt := 23) hC d_sr_indexOf2_4 (by decide) (by decide) ?_
  refine r_aload_n 0 hC d_sr_indexOf2_7 rfl ?_
  refine r_getSv hC d_sr_indexOf2_8 fw_sr_9 ?_
  refine r_iload_n 1 hC d_sr_indexOf2_11 rfl ?_
  refine r_iload_n 2 hC d_sr_indexOf2_12 rfl ?_
  refine r_aload_n 0 hC d_sr_indexOf2_13 rfl ?_
  refine r_callVS (rest := [.int a2, .int a1, .ref (tt_sa G 4)]) (stk1 := [.int sr_length, .int a2, .int a1, .ref (tt_sa G 4)]) hC d_sr_indexOf2_14 (c_sr_length G st) mw_sr_length mi_sr_length mz_sr_length ml_sr_505 rfl rfl rfl (Nat.le_of_ble_eq_true rfl) rfl ?_
  refine r_callS (rest := []) (stk1 := [.int (sl_indexOf a1 a2 sr_length)]) hC d_sr_indexOf2_17 (c_sl_indexOf G st a1 a2 sr_length hf rfl) mw_sl_indexOf ms_sl_indexOf ml_sr_637 rfl rfl rfl (Nat.le_of_ble_eq_true rfl) rfl ?_
  refine r_goto (tgt := 36) hC d_sr_indexOf2_20 (by decide) ?_
  exact r_iret_pi hC hR d_sr_indexOf2_36 rfl
/-! java/lang/String.indexOf(I)I -/
def sr_indexOf (a1 : Int32) : Int32 := (sr_indexOf2 a1 0)
set_option maxHeartbeats 4000000 in
set_option maxRecDepth 20000 in
theorem c_sr_indexOf (G : tt_G) (st : tt_St) (a1 : Int32)  : tt_C y_sr_indexOf prog_11_method_79_code 2 (some .int) 3 70 G [.ref (tt_sa G 3), .int a1] st (some (.int (sr_indexOf a1))) st := by
  refine tt_enter_pi (T := (sr_indexOf a1)) (by decide +kernel) (Nat.le_of_ble_eq_true rfl) (fun κ hC hR => ?_)
  rw [sr_indexOf]
  refine r_aload_n 0 hC d_sr_indexOf_0 rfl ?_
  refine r_iload_n 1 hC d_sr_indexOf_1 rfl ?_
  refine r_iconst (v := 0) hC d_sr_indexOf_2 (by decide) ?_
  refine r_callVS (rest := []) (stk1 := [.int (sr_indexOf2 a1 0)]) hC d_sr_indexOf_3 (c_sr_indexOf2 G st a1 0 rfl) mw_sr_indexOf2 mi_sr_indexOf2 mz_sr_indexOf2 ml_sr_633 rfl rfl rfl (Nat.le_of_ble_eq_true rfl) rfl ?_
  exact r_iret_pi hC hR d_sr_indexOf_6 rfl
/-! TideTable$Page.kindOf(I)I -/
def pg_kindOf (a1 : Int32) : Int32 := (sr_indexOf (UInt32.toInt32 (Int32.toUInt32 a1 % 65536)))
set_option maxHeartbeats 4000000 in
set_option maxRecDepth 20000 in
theorem c_pg_kindOf (G : tt_G) (st : tt_St) (a1 : Int32)  : tt_C y_pg_kindOf prog_2_method_6_code 1 (some .int) 4 91 G [.int a1] st (some (.int (pg_kindOf a1))) st := by
  refine tt_enter_pi (T := (pg_kindOf a1)) (by decide +kernel) (Nat.le_of_ble_eq_true rfl) (fun κ hC hR => ?_)
  rw [pg_kindOf]
  refine r_ldcS hC d_pg_kindOf_0 ?_
  refine r_iload_n 0 hC d_pg_kindOf_2 rfl ?_
  refine r_i2c hC d_pg_kindOf_3 ?_
  refine r_callVS (rest := []) (stk1 := [.int (sr_indexOf (UInt32.toInt32 (Int32.toUInt32 a1 % 65536)))]) hC d_pg_kindOf_4 (c_sr_indexOf G st (UInt32.toInt32 (Int32.toUInt32 a1 % 65536))) mw_sr_indexOf mi_sr_indexOf mz_sr_indexOf ml_pg_46 rfl rfl rfl (Nat.le_of_ble_eq_true rfl) rfl ?_
  exact r_iret_pi hC hR d_pg_kindOf_7 rfl

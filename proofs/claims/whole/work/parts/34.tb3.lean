/-! TideTable$Wave.put(III)V -/
def wa_put (st : tt_St) (o : Nat) (a1 : Int32) (a2 : Int32) (a3 : Int32) : tt_St := tt_pI (tt_pI (tt_pI st o 0 a1) o 1 a2) o 2 a3
set_option maxHeartbeats 4000000 in
set_option maxRecDepth 20000 in
theorem c_wa_put (G : tt_G) (st : tt_St) (o : Nat) (a1 : Int32) (a2 : Int32) (a3 : Int32) (ho : tt_ci o = 3) : tt_C y_wa_put prog_5_method_2_code 4 none 0 0 G [.ref (tt_ad G o), .int a1, .int a2, .int a3] st none (wa_put st o a1 a2 a3) := by
  refine tt_enter_sv (T := (wa_put st o a1 a2 a3)) (by decide +kernel) (Nat.le_of_ble_eq_true rfl) (fun κ hC hR => ?_)
  rw [wa_put]
  refine r_aload_n 0 hC d_wa_put_0 rfl ?_
  refine r_iload_n 1 hC d_wa_put_1 rfl ?_
  refine r_putI hC d_wa_put_2 fl_wa_7 fp_3_0 rfl ho rfl rfl ?_
  refine r_aload_n 0 hC d_wa_put_5 rfl ?_
  refine r_iload_n 2 hC d_wa_put_6 rfl ?_
  refine r_putI hC d_wa_put_7 fl_wa_13 fp_3_1 rfl ho rfl rfl ?_
  refine r_aload_n 0 hC d_wa_put_10 rfl ?_
  refine r_iload_n 3 hC d_wa_put_11 rfl ?_
  refine r_putI hC d_wa_put_12 fl_wa_16 fp_3_2 rfl ho rfl rfl ?_
  exact r_vret_sv hC hR d_wa_put_15
/-! TideTable$Wave.givesAt(I)I -/
def wa_givesAt (st : tt_St) (o : Nat) (a1 : Int32) : Int32 := (ma_floorDiv ((tt_I st o 1) * ((((tb_roundAt (((((tt_I st o 0) * a1) + (16 * (tt_I st o 2))) &&& 1023) >>> ((4 : Int32) &&& 31))) * (16 - (((((tt_I st o 0) * a1) + (16 * (tt_I st o 2))) &&& 1023) &&& 15))) + ((tb_roundAt ((((((tt_I st o 0) * a1) + (16 * (tt_I st o 2))) &&& 1023) >>> ((4 : Int32) &&& 31)) + 1)) * (((((tt_I st o 0) * a1) + (16 * (tt_I st o 2))) &&& 1023) &&& 15))) >>> ((4 : Int32) &&& 31))) 100)
set_option maxHeartbeats 4000000 in
set_option maxRecDepth 20000 in
theorem c_wa_givesAt (G : tt_G) (st : tt_St) (o : Nat) (a1 : Int32) (ho : tt_ci o = 3) : tt_C y_wa_givesAt prog_5_method_3_code 6 (some .int) 1 22 G [.ref (tt_ad G o), .int a1] st (some (.int (wa_givesAt st o a1))) st := by
  refine tt_enter_pi (T := (wa_givesAt st o a1)) (by decide +kernel) (Nat.le_of_ble_eq_true rfl) (fun κ hC hR => ?_)
  rw [wa_givesAt]
  refine r_aload_n 0 hC d_wa_givesAt_0 rfl ?_
  refine r_getI hC d_wa_givesAt_1 fl_wa_7 rfl ho ?_
  refine r_iload_n 1 hC d_wa_givesAt_4 rfl ?_
  refine r_imul hC d_wa_givesAt_5 ?_
  refine r_bipush (v := 16) hC d_wa_givesAt_6 (by decide) ?_
  refine r_aload_n 0 hC d_wa_givesAt_8 rfl ?_
  refine r_getI hC d_wa_givesAt_9 fl_wa_16 rfl ho ?_
  refine r_imul hC d_wa_givesAt_12 ?_
  refine r_iadd hC d_wa_givesAt_13 ?_
  refine r_sipush (v := 1023) hC d_wa_givesAt_14 (by decide) ?_
  refine r_iand hC d_wa_givesAt_17 ?_
  refine r_istore_n [(2, .int ((((tt_I st o 0) * a1) + (16 * (tt_I st o 2))) &&& 1023)), (0, .ref (tt_ad G o)), (1, .int a1)] hC d_wa_givesAt_18 rfl (by decide) rfl ?_
  refine r_iload_n 0 hC d_wa_givesAt_19 rfl ?_
  refine r_iconst (v := 4) hC d_wa_givesAt_20 (by decide) ?_
  refine r_ishr hC d_wa_givesAt_21 ?_
  refine r_istore_n [(3, .int (((((tt_I st o 0) * a1) + (16 * (tt_I st o 2))) &&& 1023) >>> ((4 : Int32) &&& 31))), (2, .int ((((tt_I st o 0) * a1) + (16 * (tt_I st o 2))) &&& 1023)), (0, .ref (tt_ad G o)), (1, .int a1)] hC d_wa_givesAt_22 rfl (by decide) rfl ?_
  refine r_iload_n 1 hC d_wa_givesAt_23 rfl ?_
  refine r_bipush (v := 15) hC d_wa_givesAt_24 (by decide) ?_
  refine r_iand hC d_wa_givesAt_26 ?_
  refine r_istore [(4, .int (((((tt_I st o 0) * a1) + (16 * (tt_I st o 2))) &&& 1023) &&& 15)), (3, .int (((((tt_I st o 0) * a1) + (16 * (tt_I st o 2))) &&& 1023) >>> ((4 : Int32) &&& 31))), (2, .int ((((tt_I st o 0) * a1) + (16 * (tt_I st o 2))) &&& 1023)), (0, .ref (tt_ad G o)), (1, .int a1)] hC d_wa_givesAt_27 (by decide) rfl ?_
  refine r_iload_n 1 hC d_wa_givesAt_29 rfl ?_
  refine r_callSN (rest := []) (stk1 := [.int (tb_roundAt (((((tt_I st o 0) * a1) + (16 * (tt_I st o 2))) &&& 1023) >>> ((4 : Int32) &&& 31)))]) hC d_wa_givesAt_30 (c_tb_roundAt G st (((((tt_I st o 0) * a1) + (16 * (tt_I st o 2))) &&& 1023) >>> ((4 : Int32) &&& 31))) mw_tb_roundAt ms_tb_roundAt ml_wa_19 rfl rfl rfl (Nat.le_of_ble_eq_true rfl) rfl ?_
  refine r_bipush (v := 16) hC d_wa_givesAt_33 (by decide) ?_
  refine r_iload 0 hC d_wa_givesAt_35 rfl ?_
  refine r_isub hC d_wa_givesAt_37 ?_
  refine r_imul hC d_wa_givesAt_38 ?_
  refine r_iload_n 1 hC d_wa_givesAt_39 rfl ?_
  refine r_iconst (v := 1) hC d_wa_givesAt_40 (by decide) ?_
  refine r_iadd hC d_wa_givesAt_41 ?_
  refine r_callSN (rest := [.int ((tb_roundAt (((((tt_I st o 0) * a1) + (16 * (tt_I st o 2))) &&& 1023) >>> ((4 : Int32) &&& 31))) * (16 - (((((tt_I st o 0) * a1) + (16 * (tt_I st o 2))) &&& 1023) &&& 15)))]) (stk1 := [.int (tb_roundAt ((((((tt_I st o 0) * a1) + (16 * (tt_I st o 2))) &&& 1023) >>> ((4 : Int32) &&& 31)) + 1)), .int ((tb_roundAt (((((tt_I st o 0) * a1) + (16 * (tt_I st o 2))) &&& 1023) >>> ((4 : Int32) &&& 31))) * (16 - (((((tt_I st o 0) * a1) + (16 * (tt_I st o 2))) &&& 1023) &&& 15)))]) hC d_wa_givesAt_42 (c_tb_roundAt G st ((((((tt_I st o 0) * a1) + (16 * (tt_I st o 2))) &&& 1023) >>> ((4 : Int32) &&& 31)) + 1)) mw_tb_roundAt ms_tb_roundAt ml_wa_19 rfl rfl rfl (Nat.le_of_ble_eq_true rfl) rfl ?_
  refine r_iload 0 hC d_wa_givesAt_45 rfl ?_
  refine r_imul hC d_wa_givesAt_47 ?_
  refine r_iadd hC d_wa_givesAt_48 ?_
  refine r_iconst (v := 4) hC d_wa_givesAt_49 (by decide) ?_
  refine r_ishr hC d_wa_givesAt_50 ?_
  refine r_istore [(5, .int ((((tb_roundAt (((((tt_I st o 0) * a1) + (16 * (tt_I st o 2))) &&& 1023) >>> ((4 : Int32) &&& 31))) * (16 - (((((tt_I st o 0) * a1) + (16 * (tt_I st o 2))) &&& 1023) &&& 15))) + ((tb_roundAt ((((((tt_I st o 0) * a1) + (16 * (tt_I st o 2))) &&& 1023) >>> ((4 : Int32) &&& 31)) + 1)) * (((((tt_I st o 0) * a1) + (16 * (tt_I st o 2))) &&& 1023) &&& 15))) >>> ((4 : Int32) &&& 31))), (4, .int (((((tt_I st o 0) * a1) + (16 * (tt_I st o 2))) &&& 1023) &&& 15)), (3, .int (((((tt_I st o 0) * a1) + (16 * (tt_I st o 2))) &&& 1023) >>> ((4 : Int32) &&& 31))), (2, .int ((((tt_I st o 0) * a1) + (16 * (tt_I st o 2))) &&& 1023)), (0, .ref (tt_ad G o)), (1, .int a1)] hC d_wa_givesAt_51 (by decide) rfl ?_
  refine r_aload_n 4 hC d_wa_givesAt_53 rfl ?_
  refine r_getI hC d_wa_givesAt_54 fl_wa_13 rfl ho ?_
  refine r_iload 0 hC d_wa_givesAt_57 rfl ?_
  refine r_imul hC d_wa_givesAt_59 ?_
  refine r_bipush (v := 100) hC d_wa_givesAt_60 (by decide) ?_
  refine r_callS (rest := []) (stk1 := [.int (ma_floorDiv ((tt_I st o 1) * ((((tb_roundAt (((((tt_I st o 0) * a1) + (16 * (tt_I st o 2))) &&& 1023) >>> ((4 : Int32) &&& 31))) * (16 - (((((tt_I st o 0) * a1) + (16 * (tt_I st o 2))) &&& 1023) &&& 15))) + ((tb_roundAt ((((((tt_I st o 0) * a1) + (16 * (tt_I st o 2))) &&& 1023) >>> ((4 : Int32) &&& 31)) + 1)) * (((((tt_I st o 0) * a1) + (16 * (tt_I st o 2))) &&& 1023) &&& 15))) >>> ((4 : Int32) &&& 31))) 100)]) hC d_wa_givesAt_62 (c_ma_floorDiv G st ((tt_I st o 1) * ((((tb_roundAt (((((tt_I st o 0) * a1) + (16 * (tt_I st o 2))) &&& 1023) >>> ((4 : Int32) &&& 31))) * (16 - (((((tt_I st o 0) * a1) + (16 * (tt_I st o 2))) &&& 1023) &&& 15))) + ((tb_roundAt ((((((tt_I st o 0) * a1) + (16 * (tt_I st o 2))) &&& 1023) >>> ((4 : Int32) &&& 31)) + 1)) * (((((tt_I st o 0) * a1) + (16 * (tt_I st o 2))) &&& 1023) &&& 15))) >>> ((4 : Int32) &&& 31))) 100 (by decide)) mw_ma_floorDiv ms_ma_floorDiv ml_wa_25 rfl rfl rfl (Nat.le_of_ble_eq_true rfl) rfl ?_
  exact r_iret_pi hC hR d_wa_givesAt_65 rfl
/-! TideTable$Port.begin(IIII)V -/
def po_begin (st : tt_St) (o : Nat) (a1 : Int32) (a2 : Int32) (a3 : Int32) (a4 : Int32) : tt_St := tt_pI (tt_pI (tt_pI (tt_pI (tt_pI (tt_pI st o 0 a1) o 1 a2) o 2 a3) o 3 a4) o 4 31) o 6 0
set_option maxHeartbeats 4000000 in
set_option maxRecDepth 20000 in
theorem c_po_begin (G : tt_G) (st : tt_St) (o : Nat) (a1 : Int32) (a2 : Int32) (a3 : Int32) (a4 : Int32) (ho : tt_ci o = 1) : tt_C y_po_begin prog_3_method_2_code 5 none 0 0 G [.ref (tt_ad G o), .int a1, .int a2, .int a3, .int a4] st none (po_begin st o a1 a2 a3 a4) := by
  refine tt_enter_sv (T := (po_begin st o a1 a2 a3 a4)) (by decide +kernel) (Nat.le_of_ble_eq_true rfl) (fun κ hC hR => ?_)
  rw [po_begin]
  refine r_aload_n 0 hC d_po_begin_0 rfl ?_
  refine r_iload_n 1 hC d_po_begin_1 rfl ?_
  refine r_putI hC d_po_begin_2 fl_po_22 fp_1_0 rfl ho rfl rfl ?_
  refine r_aload_n 0 hC d_po_begin_5 rfl ?_
  refine r_iload_n 2 hC d_po_begin_6 rfl ?_
  refine r_putI hC d_po_begin_7 fl_po_25 fp_1_1 rfl ho rfl rfl ?_
  refine r_aload_n 0 hC d_po_begin_10 rfl ?_
  refine r_iload_n 3 hC d_po_begin_11 rfl ?_
  refine r_putI hC d_po_begin_12 fl_po_28 fp_1_2 rfl ho rfl rfl ?_
  refine r_aload_n 0 hC d_po_begin_15 rfl ?_
  refine r_iload 4 hC d_po_begin_16 rfl ?_
  refine r_putI hC d_po_begin_18 fl_po_31 fp_1_3 rfl ho rfl rfl ?_
  refine r_aload_n 0 hC d_po_begin_21 rfl ?_
  refine r_bipush (v := 31) hC d_po_begin_22 (by decide) ?_
  refine r_putI hC d_po_begin_24 fl_po_9 fp_1_4 rfl ho rfl rfl ?_
  refine r_aload_n 0 hC d_po_begin_27 rfl ?_
  refine r_iconst (v := 0) hC d_po_begin_28 (by decide) ?_
  refine r_putI hC d_po_begin_29 fl_po_34 fp_1_6 rfl ho rfl rfl ?_
  exact r_vret_sv hC hR d_po_begin_32
/-! TideTable$Port.isOddDay(I)Z -/
def po_isOddDay (a1 : Int32) : Int32 := (if ((ma_floorDiv a1 144) &&& 1) = 1 then 1 else 0)
set_option maxHeartbeats 4000000 in
set_option maxRecDepth 20000 in
theorem c_po_isOddDay (G : tt_G) (st : tt_St) (a1 : Int32)  : tt_C y_po_isOddDay prog_3_method_10_code 1 (some .boolean) 1 22 G [.int a1] st (some (.int (po_isOddDay a1))) st := by
  refine tt_enter_pi (T := (po_isOddDay a1)) (by decide +kernel) (Nat.le_of_ble_eq_true rfl) (fun κ hC hR => ?_)
  rw [po_isOddDay]
  refine r_iload_n 0 hC d_po_isOddDay_0 rfl ?_
  refine r_sipush (v := 144) hC d_po_isOddDay_1 (by decide) ?_
  refine r_callS (rest := []) (stk1 := [.int (ma_floorDiv a1 144)]) hC d_po_isOddDay_4 (c_ma_floorDiv G st a1 144 (by decide)) mw_ma_floorDiv ms_ma_floorDiv ml_po_77 rfl rfl rfl (Nat.le_of_ble_eq_true rfl) rfl ?_
  refine r_iconst (v := 1) hC d_po_isOddDay_7 (by decide) ?_
  refine r_iand hC d_po_isOddDay_8 ?_
  refine r_iconst (v := 1) hC d_po_isOddDay_9 (by decide) ?_
  refine r_icmp_ne (tgt := 17) hC d_po_isOddDay_10 (by decide) (fun c_10 => ?_) (fun c_10 => ?_)
  ·
    refine r_iconst (v := 0) hC d_po_isOddDay_17 (by decide) ?_
    exact r_iret_pi hC hR d_po_isOddDay_18 rfl
  ·
    refine r_iconst (v := 1) hC d_po_isOddDay_13 (by decide) ?_
    refine r_goto (tgt := 18) hC d_po_isOddDay_14 (by decide) ?_
    exact r_iret_pi hC hR d_po_isOddDay_18 rfl
/-! TideTable$Port.sumAt(I)I -/
def po_sumAt_l10 (st : tt_St) (o : Nat) (a1 : Int32) : Nat → Nat → Int32 → Int32
  | 0, j, x2 => x2
  | n + 1, j, x2 => (po_sumAt_l10 st o a1 n (j + 1) (x2 + (wa_givesAt st (tt_wv o (Int32.toNatClampNeg (nI j))) a1)))
set_option maxHeartbeats 4000000 in
set_option maxRecDepth 20000 in
theorem l_po_sumAt_10 {α : Type} {G : tt_G} {κ : tt_X α} {T : α} (hC : tt_Cx G κ prog_3_method_8_code "TideTable$Port" 4 2 47) (st : tt_St) (o : Nat) (a1 : Int32) (ho : tt_ci o = 1) (hI : tb_ok st) (hN : (Int32.toNatClampNeg (tt_I st o 6)) ≤ 3) : ∀ (n j : Nat) (x2 : Int32), j + n = (Int32.toNatClampNeg (tt_I st o 6)) → tt_V G κ T st 37 [(2, .int (po_sumAt_l10 st o a1 n j x2))] [] → tt_V G κ T st 10 [(0, .ref (tt_ad G o)), (1, .int a1), (2, .int x2), (3, .int (nI j))] [] := by
  intro n
  induction n with
  | zero =>
    intro j x2 hj k
    refine r_iload_n 3 hC d_po_sumAt_10 rfl ?_
    refine r_aload_n 0 hC d_po_sumAt_11 rfl ?_
    refine r_getI hC d_po_sumAt_12 fl_po_34 rfl ho ?_
    refine t_icmp_ge (tgt := 37) hC d_po_sumAt_15 (by decide) (tt_end (hI.1 o ho).1 (by omega) (by omega)) ?_
    exact tt_cast [2] rfl rfl k
  | succ n ih =>
    intro j x2 hj k
    refine r_iload_n 3 hC d_po_sumAt_10 rfl ?_
    refine r_aload_n 0 hC d_po_sumAt_11 rfl ?_
    refine r_getI hC d_po_sumAt_12 fl_po_34 rfl ho ?_
    refine f_icmp_ge (tgt := 37) hC d_po_sumAt_15 (by decide) (tt_stay (by omega)) ?_
    refine r_iload_n 2 hC d_po_sumAt_18 rfl ?_
    refine r_aload_n 0 hC d_po_sumAt_19 rfl ?_
    refine r_getR (r := (o + 8)) hC d_po_sumAt_20 fl_po_17 rfl ho (tt_R_po ho) ?_
    refine r_iload_n 3 hC d_po_sumAt_23 rfl ?_
    have hb_24 : vp_in (nI j) 3 := (vp_in_nI (by omega) (by omega))
    refine r_aald (r := (tt_wv o (Int32.toNatClampNeg (nI j)))) (C := "TideTable$Wave") hC d_po_sumAt_24 (tt_ar_po ho).1 (tt_ar_po ho).2.1 (tt_ar_po ho).2.2.1 (by decide) (fun _ => rfl) (tt_ar_po ho).2.2.2 hb_24 (tt_wv_RA ho) ?_
    refine r_iload_n 1 hC d_po_sumAt_25 rfl ?_
    refine r_callV (o := (tt_wv o (Int32.toNatClampNeg (nI j)))) (rest := [.int x2]) (stk1 := [.int (wa_givesAt st (tt_wv o (Int32.toNatClampNeg (nI j))) a1), .int x2]) hC d_po_sumAt_26 (c_wa_givesAt G st (tt_wv o (Int32.toNatClampNeg (nI j))) a1 (tt_wv_ci ho hb_24)) mw_wa_givesAt mi_wa_givesAt mz_wa_givesAt ml_po_57 (tt_wv_ci ho hb_24) rfl rfl rfl rfl (Nat.le_of_ble_eq_true rfl) rfl ?_
    refine r_iadd hC d_po_sumAt_29 ?_
    refine r_istore_n [(2, .int (x2 + (wa_givesAt st (tt_wv o (Int32.toNatClampNeg (nI j))) a1))), (0, .ref (tt_ad G o)), (1, .int a1), (3, .int (nI j))] hC d_po_sumAt_30 rfl (by decide) rfl ?_
    refine r_iinc 3 (nI (j + 1)) [(3, .int (nI (j + 1))), (2, .int (x2 + (wa_givesAt st (tt_wv o (Int32.toNatClampNeg (nI j))) a1))), (0, .ref (tt_ad G o)), (1, .int a1)] hC d_po_sumAt_31 rfl (by rw [nI_succ]; rfl) (by decide) rfl ?_
    refine r_goto (tgt := 10) hC d_po_sumAt_34 (by decide) ?_
    exact tt_cast [2, 3, 1, 0] rfl rfl (ih (j + 1) (x2 + (wa_givesAt st (tt_wv o (Int32.toNatClampNeg (nI j))) a1)) (by omega) (by simpa only [po_sumAt_l10] using k))
def po_sumAt (st : tt_St) (o : Nat) (a1 : Int32) : Int32 := (po_sumAt_l10 st o a1 (Int32.toNatClampNeg (tt_I st o 6)) 0 (10 * (tt_I st o 1)))
set_option maxHeartbeats 4000000 in
set_option maxRecDepth 20000 in
theorem c_po_sumAt (G : tt_G) (st : tt_St) (o : Nat) (a1 : Int32) (ho : tt_ci o = 1) (hI : tb_ok st) : tt_C y_po_sumAt prog_3_method_8_code 4 (some .int) 2 47 G [.ref (tt_ad G o), .int a1] st (some (.int (po_sumAt st o a1))) st := by
  refine tt_enter_pi (T := (po_sumAt st o a1)) (by decide +kernel) (Nat.le_of_ble_eq_true rfl) (fun κ hC hR => ?_)
  rw [po_sumAt]
  refine r_bipush (v := 10) hC d_po_sumAt_0 (by decide) ?_
  refine r_aload_n 0 hC d_po_sumAt_2 rfl ?_
  refine r_getI hC d_po_sumAt_3 fl_po_25 rfl ho ?_
  refine r_imul hC d_po_sumAt_6 ?_
  refine r_istore_n [(2, .int (10 * (tt_I st o 1))), (0, .ref (tt_ad G o)), (1, .int a1)] hC d_po_sumAt_7 rfl (by decide) rfl ?_
  refine r_iconst (v := 0) hC d_po_sumAt_8 (by decide) ?_
  refine r_istore_n [(3, .int 0), (2, .int (10 * (tt_I st o 1))), (0, .ref (tt_ad G o)), (1, .int a1)] hC d_po_sumAt_9 rfl (by decide) rfl ?_
  refine tt_cast [2, 3, 1, 0] rfl rfl (l_po_sumAt_10 hC st o a1 ho hI (tt_cle (hI.1 o ho).2) (Int32.toNatClampNeg (tt_I st o 6)) 0 (10 * (tt_I st o 1)) (by omega)  ?_)
  refine r_iload_n 0 hC d_po_sumAt_37 rfl ?_
  exact r_iret_pi hC hR d_po_sumAt_38 rfl
/-! TideTable$Port.ownHeightAt(I)I -/
def po_ownHeightAt_l66 (st : tt_St) (o : Nat) (a1 : Int32) (x3 : Int32) : Nat → Nat → Int32 → Int32
  | 0, j, x2 => x2
  | n + 1, j, x2 => (po_ownHeightAt_l66 st o a1 x3 n (j + 1) (ma_max x2 (po_sumAt st o (a1 - (nI j)))))
set_option maxHeartbeats 4000000 in
set_option maxRecDepth 20000 in
theorem l_po_ownHeightAt_66 {α : Type} {G : tt_G} {κ : tt_X α} {T : α} (hC : tt_Cx G κ prog_3_method_9_code "TideTable$Port" 5 3 70) (st : tt_St) (o : Nat) (a1 : Int32) (x3 : Int32) (ho : tt_ci o = 1) (hI : tb_ok st) (hk : 0 ≤ x3.toInt ∧ x3.toInt ≤ 6) : ∀ (n j : Nat) (x2 : Int32), j + n = Int32.toNatClampNeg x3 + 1 → tt_V G κ T st 91 [(2, .int (po_ownHeightAt_l66 st o a1 x3 n j x2))] [] → tt_V G κ T st 66 [(0, .ref (tt_ad G o)), (1, .int a1), (2, .int x2), (3, .int x3), (4, .int (nI j))] [] := by
  intro n
  induction n with
  | zero =>
    intro j x2 hj k
    refine r_iload 4 hC d_po_ownHeightAt_66 rfl ?_
    refine r_iload_n 3 hC d_po_ownHeightAt_68 rfl ?_
    refine t_icmp_gt (tgt := 91) hC d_po_ownHeightAt_69 (by decide) (tt_endG hk.1 (by omega) (by have := tt_cle (n := 6) hk.2; omega)) ?_
    exact tt_cast [2] rfl rfl k
  | succ n ih =>
    intro j x2 hj k
    refine r_iload 4 hC d_po_ownHeightAt_66 rfl ?_
    refine r_iload_n 3 hC d_po_ownHeightAt_68 rfl ?_
    refine f_icmp_gt (tgt := 91) hC d_po_ownHeightAt_69 (by decide) (tt_stayG hk.1 (by omega)) ?_
    refine r_iload_n 2 hC d_po_ownHeightAt_72 rfl ?_
    refine r_aload_n 0 hC d_po_ownHeightAt_73 rfl ?_
    refine r_iload_n 1 hC d_po_ownHeightAt_74 rfl ?_
    refine r_iload 4 hC d_po_ownHeightAt_75 rfl ?_
    refine r_isub hC d_po_ownHeightAt_77 ?_
    refine r_callV (o := o) (rest := [.int x2]) (stk1 := [.int (po_sumAt st o (a1 - (nI j))), .int x2]) hC d_po_ownHeightAt_78 (c_po_sumAt G st o (a1 - (nI j)) ho hI) mw_po_sumAt mi_po_sumAt mz_po_sumAt ml_po_61 ho rfl rfl rfl rfl (Nat.le_of_ble_eq_true rfl) rfl ?_
    refine r_callS (rest := []) (stk1 := [.int (ma_max x2 (po_sumAt st o (a1 - (nI j))))]) hC d_po_ownHeightAt_81 (c_ma_max G st x2 (po_sumAt st o (a1 - (nI j)))) mw_ma_max ms_ma_max ml_po_71 rfl rfl rfl (Nat.le_of_ble_eq_true rfl) rfl ?_
    refine r_istore_n [(2, .int (ma_max x2 (po_sumAt st o (a1 - (nI j))))), (0, .ref (tt_ad G o)), (1, .int a1), (3, .int x3), (4, .int (nI j))] hC d_po_ownHeightAt_84 rfl (by decide) rfl ?_
    refine r_iinc 4 (nI (j + 1)) [(4, .int (nI (j + 1))), (2, .int (ma_max x2 (po_sumAt st o (a1 - (nI j))))), (0, .ref (tt_ad G o)), (1, .int a1), (3, .int x3)] hC d_po_ownHeightAt_85 rfl (by rw [nI_succ]; rfl) (by decide) rfl ?_
    refine r_goto (tgt := 66) hC d_po_ownHeightAt_88 (by decide) ?_
    exact tt_cast [2, 3, 1, 4, 0] rfl rfl (ih (j + 1) (ma_max x2 (po_sumAt st o (a1 - (nI j)))) (by omega) (by simpa only [po_ownHeightAt_l66] using k))
def po_ownHeightAt (st : tt_St) (o : Nat) (a1 : Int32) : Int32 := (po_ownHeightAt_l66 st o a1 (if (tt_I st o 0) = 2 then 6 else 0 : Int32) (Int32.toNatClampNeg (if (tt_I st o 0) = 2 then 6 else 0 : Int32)) 1 (if (po_isA st o 1) = 0 then (if (tt_I st o 0) = 4 then (if (po_isOddDay a1) = 0 then (po_sumAt st o a1) else ((po_sumAt st o a1) + (tt_I st o 2)) : Int32) else (po_sumAt st o a1) : Int32) else (ma_max (if (tt_I st o 0) = 4 then (if (po_isOddDay a1) = 0 then (po_sumAt st o a1) else ((po_sumAt st o a1) + (tt_I st o 2)) : Int32) else (po_sumAt st o a1) : Int32) (10 * (tt_I st o 2))) : Int32))
set_option maxHeartbeats 4000000 in
set_option maxRecDepth 20000 in
theorem c_po_ownHeightAt (G : tt_G) (st : tt_St) (o : Nat) (a1 : Int32) (ho : tt_ci o = 1) (hI : tb_ok st) : tt_C y_po_ownHeightAt prog_3_method_9_code 5 (some .int) 3 70 G [.ref (tt_ad G o), .int a1] st (some (.int (po_ownHeightAt st o a1))) st := by
  refine tt_enter_pi (T := (po_ownHeightAt st o a1)) (by decide +kernel) (Nat.le_of_ble_eq_true rfl) (fun κ hC hR => ?_)
  rw [po_ownHeightAt]
  refine r_aload_n 0 hC d_po_ownHeightAt_0 rfl ?_
  refine r_iload_n 1 hC d_po_ownHeightAt_1 rfl ?_
  refine r_callV (o := o) (rest := []) (stk1 := [.int (po_sumAt st o a1)]) hC d_po_ownHeightAt_2 (c_po_sumAt G st o a1 ho hI) mw_po_sumAt mi_po_sumAt mz_po_sumAt ml_po_61 ho rfl rfl rfl rfl (Nat.le_of_ble_eq_true rfl) rfl ?_
  refine r_istore_n [(2, .int (po_sumAt st o a1)), (0, .ref (tt_ad G o)), (1, .int a1)] hC d_po_ownHeightAt_5 rfl (by decide) rfl ?_
  refine r_aload_n 1 hC d_po_ownHeightAt_6 rfl ?_
  refine r_getI hC d_po_ownHeightAt_7 fl_po_22 rfl ho ?_
  refine r_iconst (v := 4) hC d_po_ownHeightAt_10 (by decide) ?_
  refine tt_join 28 [(0, .ref (tt_ad G o)), (1, .int a1), (2, .int (if (tt_I st o 0) = 4 then (if (po_isOddDay a1) = 0 then (po_sumAt st o a1) else ((po_sumAt st o a1) + (tt_I st o 2)) : Int32) else (po_sumAt st o a1) : Int32))] [] ?_ (fun kj_11 => ?_)
  ·
    refine r_aload_n 0 hC d_po_ownHeightAt_28 rfl ?_
    refine r_iconst (v := 1) hC d_po_ownHeightAt_29 (by decide) ?_
    refine r_callV (o := o) (rest := []) (stk1 := [.int (po_isA st o 1)]) hC d_po_ownHeightAt_30 (c_po_isA G st o 1 ho) mw_po_isA mi_po_isA mz_po_isA ml_po_68 ho rfl rfl rfl rfl (Nat.le_of_ble_eq_true rfl) rfl ?_
    refine tt_join 48 [(0, .ref (tt_ad G o)), (1, .int a1), (2, .int (if (po_isA st o 1) = 0 then (if (tt_I st o 0) = 4 then (if (po_isOddDay a1) = 0 then (po_sumAt st o a1) else ((po_sumAt st o a1) + (tt_I st o 2)) : Int32) else (po_sumAt st o a1) : Int32) else (ma_max (if (tt_I st o 0) = 4 then (if (po_isOddDay a1) = 0 then (po_sumAt st o a1) else ((po_sumAt st o a1) + (tt_I st o 2)) : Int32) else (po_sumAt st o a1) : Int32) (10 * (tt_I st o 2))) : Int32))] [] ?_ (fun kj_33 => ?_)
    ·
      refine r_aload_n 0 hC d_po_ownHeightAt_48 rfl ?_
      refine r_getI hC d_po_ownHeightAt_49 fl_po_22 rfl ho ?_
      refine r_iconst (v := 2) hC d_po_ownHeightAt_52 (by decide) ?_
      refine tt_join 62 [(0, .ref (tt_ad G o)), (1, .int a1), (2, .int (if (po_isA st o 1) = 0 then (if (tt_I st o 0) = 4 then (if (po_isOddDay a1) = 0 then (po_sumAt st o a1) else ((po_sumAt st o a1) + (tt_I st o 2)) : Int32) else (po_sumAt st o a1) : Int32) else (ma_max (if (tt_I st o 0) = 4 then (if (po_isOddDay a1) = 0 then (po_sumAt st o a1) else ((po_sumAt st o a1) + (tt_I st o 2)) : Int32) else (po_sumAt st o a1) : Int32) (10 * (tt_I st o 2))) : Int32))] [.int (if (tt_I st o 0) = 2 then 6 else 0 : Int32)] ?_ (fun kj_53 => ?_)
      ·
        refine r_istore_n [(3, .int (if (tt_I st o 0) = 2 then 6 else 0 : Int32)), (0, .ref (tt_ad G o)), (1, .int a1), (2, .int (if (po_isA st o 1) = 0 then (if (tt_I st o 0) = 4 then (if (po_isOddDay a1) = 0 then (po_sumAt st o a1) else ((po_sumAt st o a1) + (tt_I st o 2)) : Int32) else (po_sumAt st o a1) : Int32) else (ma_max (if (tt_I st o 0) = 4 then (if (po_isOddDay a1) = 0 then (po_sumAt st o a1) else ((po_sumAt st o a1) + (tt_I st o 2)) : Int32) else (po_sumAt st o a1) : Int32) (10 * (tt_I st o 2))) : Int32))] hC d_po_ownHeightAt_62 rfl (by decide) rfl ?_
        refine r_iconst (v := 1) hC d_po_ownHeightAt_63 (by decide) ?_
        refine r_istore [(4, .int 1), (3, .int (if (tt_I st o 0) = 2 then 6 else 0 : Int32)), (0, .ref (tt_ad G o)), (1, .int a1), (2, .int (if (po_isA st o 1) = 0 then (if (tt_I st o 0) = 4 then (if (po_isOddDay a1) = 0 then (po_sumAt st o a1) else ((po_sumAt st o a1) + (tt_I st o 2)) : Int32) else (po_sumAt st o a1) : Int32) else (ma_max (if (tt_I st o 0) = 4 then (if (po_isOddDay a1) = 0 then (po_sumAt st o a1) else ((po_sumAt st o a1) + (tt_I st o 2)) : Int32) else (po_sumAt st o a1) : Int32) (10 * (tt_I st o 2))) : Int32))] hC d_po_ownHeightAt_64 (by decide) rfl ?_
        refine tt_cast [2, 3, 4, 1, 0] rfl rfl (l_po_ownHeightAt_66 hC st o a1 (if (tt_I st o 0) = 2 then 6 else 0 : Int32) ho hI tt_keeps (Int32.toNatClampNeg (if (tt_I st o 0) = 2 then 6 else 0 : Int32)) 1 (if (po_isA st o 1) = 0 then (if (tt_I st o 0) = 4 then (if (po_isOddDay a1) = 0 then (po_sumAt st o a1) else ((po_sumAt st o a1) + (tt_I st o 2)) : Int32) else (po_sumAt st o a1) : Int32) else (ma_max (if (tt_I st o 0) = 4 then (if (po_isOddDay a1) = 0 then (po_sumAt st o a1) else ((po_sumAt st o a1) + (tt_I st o 2)) : Int32) else (po_sumAt st o a1) : Int32) (10 * (tt_I st o 2))) : Int32) (by omega)  ?_)
        refine r_iload_n 0 hC d_po_ownHeightAt_91 rfl ?_
        exact r_iret_pi hC hR d_po_ownHeightAt_92 rfl
      ·
        refine j_icmp_ne (tgt := 61) hC d_po_ownHeightAt_53 (by decide) (fun c_53 => ?_) (fun c_53 => ?_)
        ·
          refine r_iconst (v := 0) hC d_po_ownHeightAt_61 (by decide) ?_
          exact tt_cast [0, 1, 2] rfl (by simp only [if_neg c_53]) kj_53
        ·
          refine r_bipush (v := 6) hC d_po_ownHeightAt_56 (by decide) ?_
          refine r_goto (tgt := 62) hC d_po_ownHeightAt_58 (by decide) ?_
          exact tt_cast [0, 1, 2] rfl (by simp only [if_pos c_53]) kj_53
    ·
      refine j_if_eq (tgt := 48) hC d_po_ownHeightAt_33 (by decide) (fun c_33 => ?_) (fun c_33 => ?_)
      ·
        exact tt_cast [0, 1, 2] (by simp only [if_pos c_33]; rfl) rfl kj_33
      ·
        refine r_iload_n 2 hC d_po_ownHeightAt_36 rfl ?_
        refine r_bipush (v := 10) hC d_po_ownHeightAt_37 (by decide) ?_
        refine r_aload_n 0 hC d_po_ownHeightAt_39 rfl ?_
        refine r_getI hC d_po_ownHeightAt_40 fl_po_28 rfl ho ?_
        refine r_imul hC d_po_ownHeightAt_43 ?_
        refine r_callS (rest := []) (stk1 := [.int (ma_max (if (tt_I st o 0) = 4 then (if (po_isOddDay a1) = 0 then (po_sumAt st o a1) else ((po_sumAt st o a1) + (tt_I st o 2)) : Int32) else (po_sumAt st o a1) : Int32) (10 * (tt_I st o 2)))]) hC d_po_ownHeightAt_44 (c_ma_max G st (if (tt_I st o 0) = 4 then (if (po_isOddDay a1) = 0 then (po_sumAt st o a1) else ((po_sumAt st o a1) + (tt_I st o 2)) : Int32) else (po_sumAt st o a1) : Int32) (10 * (tt_I st o 2))) mw_ma_max ms_ma_max ml_po_71 rfl rfl rfl (Nat.le_of_ble_eq_true rfl) rfl ?_
        refine r_istore_n [(2, .int (ma_max (if (tt_I st o 0) = 4 then (if (po_isOddDay a1) = 0 then (po_sumAt st o a1) else ((po_sumAt st o a1) + (tt_I st o 2)) : Int32) else (po_sumAt st o a1) : Int32) (10 * (tt_I st o 2)))), (0, .ref (tt_ad G o)), (1, .int a1)] hC d_po_ownHeightAt_47 rfl (by decide) rfl ?_
        exact tt_cast [1, 2, 0] (by simp only [if_neg c_33]; rfl) rfl kj_33
  ·
    refine j_icmp_ne (tgt := 28) hC d_po_ownHeightAt_11 (by decide) (fun c_11 => ?_) (fun c_11 => ?_)
    ·
      exact tt_cast [1, 2, 0] (by simp only [if_neg c_11]; rfl) rfl kj_11
    ·
      refine r_iload_n 2 hC d_po_ownHeightAt_14 rfl ?_
      refine r_callS (rest := []) (stk1 := [.int (po_isOddDay a1)]) hC d_po_ownHeightAt_15 (c_po_isOddDay G st a1) mw_po_isOddDay ms_po_isOddDay ml_po_64 rfl rfl rfl (Nat.le_of_ble_eq_true rfl) rfl ?_
      refine tt_join 28 [(0, .ref (tt_ad G o)), (1, .int a1), (2, .int (if (po_isOddDay a1) = 0 then (po_sumAt st o a1) else ((po_sumAt st o a1) + (tt_I st o 2)) : Int32))] [] ?_ (fun kj_18 => ?_)
      ·
        exact tt_cast [0, 1, 2] (by simp only [if_pos c_11]; rfl) rfl kj_11
      ·
        refine j_if_eq (tgt := 28) hC d_po_ownHeightAt_18 (by decide) (fun c_18 => ?_) (fun c_18 => ?_)
        ·
          exact tt_cast [1, 2, 0] (by simp only [if_pos c_18]; rfl) rfl kj_18
        ·
          refine r_iload_n 0 hC d_po_ownHeightAt_21 rfl ?_
          refine r_aload_n 1 hC d_po_ownHeightAt_22 rfl ?_
          refine r_getI hC d_po_ownHeightAt_23 fl_po_28 rfl ho ?_
          refine r_iadd hC d_po_ownHeightAt_26 ?_
          refine r_istore_n [(2, .int ((po_sumAt st o a1) + (tt_I st o 2))), (0, .ref (tt_ad G o)), (1, .int a1)] hC d_po_ownHeightAt_27 rfl (by decide) rfl ?_
          exact tt_cast [1, 2, 0] (by simp only [if_neg c_18]; rfl) rfl kj_18
/-! TideTable$Sea.heightAt(II)I -/
def se_heightAt (st : tt_St) (o : Nat) (a1 : Int32) (a2 : Int32) : Int32 := (if (se_knows st o a1) = 0 then 0 else (if (tt_I st (tt_po o (Int32.toNatClampNeg a1)) 0) = 3 then ((ma_floorDiv ((po_ownHeightAt st (tt_po o (Int32.toNatClampNeg 0)) (a2 - (tt_I st (tt_po o (Int32.toNatClampNeg a1)) 2))) * (tt_I st (tt_po o (Int32.toNatClampNeg a1)) 3)) 100) + (10 * (tt_I st (tt_po o (Int32.toNatClampNeg a1)) 1))) else (po_ownHeightAt st (tt_po o (Int32.toNatClampNeg a1)) a2)))
set_option maxHeartbeats 4000000 in
set_option maxRecDepth 20000 in
theorem c_se_heightAt (G : tt_G) (st : tt_St) (o : Nat) (a1 : Int32) (a2 : Int32) (ho : tt_ci o = 2) (hI : tb_ok st) : tt_C y_se_heightAt prog_4_method_4_code 5 (some .int) 4 94 G [.ref (tt_ad G o), .int a1, .int a2] st (some (.int (se_heightAt st o a1 a2))) st := by
  refine tt_enter_pi (T := (se_heightAt st o a1 a2)) (by decide +kernel) (Nat.le_of_ble_eq_true rfl) (fun κ hC hR => ?_)
  rw [se_heightAt]
  refine r_aload_n 0 hC d_se_heightAt_0 rfl ?_
  refine r_iload_n 1 hC d_se_heightAt_1 rfl ?_
  refine r_callV (o := o) (rest := []) (stk1 := [.int (se_knows st o a1)]) hC d_se_heightAt_2 (c_se_knows G st o a1 ho) mw_se_knows mi_se_knows mz_se_knows ml_se_29 ho rfl rfl rfl rfl (Nat.le_of_ble_eq_true rfl) rfl ?_
  refine r_if_ne (tgt := 10) hC d_se_heightAt_5 (by decide) (fun c_5 => ?_) (fun c_5 => ?_)
  ·
    refine r_aload_n 0 hC d_se_heightAt_10 rfl ?_
    refine r_getR (r := (o + 2)) hC d_se_heightAt_11 fl_se_11 rfl ho (tt_R_se ho) ?_
    refine r_iload_n 1 hC d_se_heightAt_14 rfl ?_
    have hb_15 : vp_in a1 4 := (se_knows_in hI ho c_5)
    refine r_aald (r := (tt_po o (Int32.toNatClampNeg a1))) (C := "TideTable$Port") hC d_se_heightAt_15 (tt_ar_se ho).1 (tt_ar_se ho).2.1 (tt_ar_se ho).2.2.1 (by decide) (fun _ => rfl) (tt_ar_se ho).2.2.2 hb_15 (tt_po_RA ho) ?_
    refine r_astore_n [(3, .ref (tt_ad G (tt_po o (Int32.toNatClampNeg a1)))), (0, .ref (tt_ad G o)), (1, .int a1), (2, .int a2)] hC d_se_heightAt_16 rfl (by decide) rfl ?_
    refine r_aload_n 0 hC d_se_heightAt_17 rfl ?_
    refine r_getI hC d_se_heightAt_18 fl_se_33 rfl (tt_po_ci ho hb_15) ?_
    refine r_iconst (v := 3) hC d_se_heightAt_21 (by decide) ?_
    refine r_icmp_eq (tgt := 31) hC d_se_heightAt_22 (by decide) (fun c_22 => ?_) (fun c_22 => ?_)
    ·
      refine r_aload_n 1 hC d_se_heightAt_31 rfl ?_
      refine r_getR (r := (o + 2)) hC d_se_heightAt_32 fl_se_11 rfl ho (tt_R_se ho) ?_
      refine r_iconst (v := 0) hC d_se_heightAt_35 (by decide) ?_
      have hb_36 : vp_in 0 4 := (by unfold vp_in; decide)
      refine r_aald (r := (tt_po o (Int32.toNatClampNeg 0))) (C := "TideTable$Port") hC d_se_heightAt_36 (tt_ar_se ho).1 (tt_ar_se ho).2.1 (tt_ar_se ho).2.2.1 (by decide) (fun _ => rfl) (tt_ar_se ho).2.2.2 hb_36 (tt_po_RA ho) ?_
      refine r_iload_n 3 hC d_se_heightAt_37 rfl ?_
      refine r_aload_n 0 hC d_se_heightAt_38 rfl ?_
      refine r_getI hC d_se_heightAt_39 fl_se_40 rfl (tt_po_ci ho hb_15) ?_
      refine r_isub hC d_se_heightAt_42 ?_
      refine r_callV (o := (tt_po o (Int32.toNatClampNeg 0))) (rest := []) (stk1 := [.int (po_ownHeightAt st (tt_po o (Int32.toNatClampNeg 0)) (a2 - (tt_I st (tt_po o (Int32.toNatClampNeg a1)) 2)))]) hC d_se_heightAt_43 (c_po_ownHeightAt G st (tt_po o (Int32.toNatClampNeg 0)) (a2 - (tt_I st (tt_po o (Int32.toNatClampNeg a1)) 2)) (tt_po_ci ho hb_36) hI) mw_po_ownHeightAt mi_po_ownHeightAt mz_po_ownHeightAt ml_se_36 (tt_po_ci ho hb_36) rfl rfl rfl rfl (Nat.le_of_ble_eq_true rfl) rfl ?_
      refine r_istore [(4, .int (po_ownHeightAt st (tt_po o (Int32.toNatClampNeg 0)) (a2 - (tt_I st (tt_po o (Int32.toNatClampNeg a1)) 2)))), (3, .ref (tt_ad G (tt_po o (Int32.toNatClampNeg a1)))), (0, .ref (tt_ad G o)), (1, .int a1), (2, .int a2)] hC d_se_heightAt_46 (by decide) rfl ?_
      refine r_iload 0 hC d_se_heightAt_48 rfl ?_
      refine r_aload_n 1 hC d_se_heightAt_50 rfl ?_
      refine r_getI hC d_se_heightAt_51 fl_se_43 rfl (tt_po_ci ho hb_15) ?_
      refine r_imul hC d_se_heightAt_54 ?_
      refine r_bipush (v := 100) hC d_se_heightAt_55 (by decide) ?_
      refine r_callS (rest := []) (stk1 := [.int (ma_floorDiv ((po_ownHeightAt st (tt_po o (Int32.toNatClampNeg 0)) (a2 - (tt_I st (tt_po o (Int32.toNatClampNeg a1)) 2))) * (tt_I st (tt_po o (Int32.toNatClampNeg a1)) 3)) 100)]) hC d_se_heightAt_57 (c_ma_floorDiv G st ((po_ownHeightAt st (tt_po o (Int32.toNatClampNeg 0)) (a2 - (tt_I st (tt_po o (Int32.toNatClampNeg a1)) 2))) * (tt_I st (tt_po o (Int32.toNatClampNeg a1)) 3)) 100 (by decide)) mw_ma_floorDiv ms_ma_floorDiv ml_se_46 rfl rfl rfl (Nat.le_of_ble_eq_true rfl) rfl ?_
      refine r_bipush (v := 10) hC d_se_heightAt_60 (by decide) ?_
      refine r_aload_n 1 hC d_se_heightAt_62 rfl ?_
      refine r_getI hC d_se_heightAt_63 fl_se_52 rfl (tt_po_ci ho hb_15) ?_
      refine r_imul hC d_se_heightAt_66 ?_
      refine r_iadd hC d_se_heightAt_67 ?_
      exact r_iret_pi hC hR d_se_heightAt_68 rfl
    ·
      refine r_aload_n 0 hC d_se_heightAt_25 rfl ?_
      refine r_iload_n 3 hC d_se_heightAt_26 rfl ?_
      refine r_callV (o := (tt_po o (Int32.toNatClampNeg a1))) (rest := []) (stk1 := [.int (po_ownHeightAt st (tt_po o (Int32.toNatClampNeg a1)) a2)]) hC d_se_heightAt_27 (c_po_ownHeightAt G st (tt_po o (Int32.toNatClampNeg a1)) a2 (tt_po_ci ho hb_15) hI) mw_po_ownHeightAt mi_po_ownHeightAt mz_po_ownHeightAt ml_se_36 (tt_po_ci ho hb_15) rfl rfl rfl rfl (Nat.le_of_ble_eq_true rfl) rfl ?_
      exact r_iret_pi hC hR d_se_heightAt_30 rfl
  ·
    refine r_iconst (v := 0) hC d_se_heightAt_8 (by decide) ?_
    exact r_iret_pi hC hR d_se_heightAt_9 rfl
/-! TideTable$Sea.wavesOfAll()I -/
def se_wavesOfAll_l4 (st : tt_St) (o : Nat) : Nat → Nat → Int32 → Int32
  | 0, j, x1 => x1
  | n + 1, j, x1 => (se_wavesOfAll_l4 st o n (j + 1) (x1 + (tt_I st (tt_po o (Int32.toNatClampNeg (nI j))) 6)))
set_option maxHeartbeats 4000000 in
set_option maxRecDepth 20000 in
theorem l_se_wavesOfAll_4 {α : Type} {G : tt_G} {κ : tt_X α} {T : α} (hC : tt_Cx G κ prog_4_method_6_code "TideTable$Sea" 3 0 0) (st : tt_St) (o : Nat) (ho : tt_ci o = 2) (hI : tb_ok st) (hN : (Int32.toNatClampNeg (tt_I st o 1)) ≤ 4) : ∀ (n j : Nat) (x1 : Int32), j + n = (Int32.toNatClampNeg (tt_I st o 1)) → tt_V G κ T st 30 [(1, .int (se_wavesOfAll_l4 st o n j x1))] [] → tt_V G κ T st 4 [(0, .ref (tt_ad G o)), (1, .int x1), (2, .int (nI j))] [] := by
  intro n
  induction n with
  | zero =>
    intro j x1 hj k
    refine r_iload_n 2 hC d_se_wavesOfAll_4 rfl ?_
    refine r_aload_n 0 hC d_se_wavesOfAll_5 rfl ?_
    refine r_getI hC d_se_wavesOfAll_6 fl_se_18 rfl ho ?_
    refine t_icmp_ge (tgt := 30) hC d_se_wavesOfAll_9 (by decide) (tt_end (hI.2.1 o ho).1 (by omega) (by omega)) ?_
    exact tt_cast [1] rfl rfl k
  | succ n ih =>
    intro j x1 hj k
    refine r_iload_n 2 hC d_se_wavesOfAll_4 rfl ?_
    refine r_aload_n 0 hC d_se_wavesOfAll_5 rfl ?_
    refine r_getI hC d_se_wavesOfAll_6 fl_se_18 rfl ho ?_
    refine f_icmp_ge (tgt := 30) hC d_se_wavesOfAll_9 (by decide) (tt_stay (by omega)) ?_
    refine r_iload_n 1 hC d_se_wavesOfAll_12 rfl ?_
    refine r_aload_n 0 hC d_se_wavesOfAll_13 rfl ?_
    refine r_getR (r := (o + 2)) hC d_se_wavesOfAll_14 fl_se_11 rfl ho (tt_R_se ho) ?_
    refine r_iload_n 2 hC d_se_wavesOfAll_17 rfl ?_
    have hb_18 : vp_in (nI j) 4 := (vp_in_nI (by omega) (by omega))
    refine r_aald (r := (tt_po o (Int32.toNatClampNeg (nI j)))) (C := "TideTable$Port") hC d_se_wavesOfAll_18 (tt_ar_se ho).1 (tt_ar_se ho).2.1 (tt_ar_se ho).2.2.1 (by decide) (fun _ => rfl) (tt_ar_se ho).2.2.2 hb_18 (tt_po_RA ho) ?_
    refine r_getI hC d_se_wavesOfAll_19 fl_se_58 rfl (tt_po_ci ho hb_18) ?_
    refine r_iadd hC d_se_wavesOfAll_22 ?_
    refine r_istore_n [(1, .int (x1 + (tt_I st (tt_po o (Int32.toNatClampNeg (nI j))) 6))), (0, .ref (tt_ad G o)), (2, .int (nI j))] hC d_se_wavesOfAll_23 rfl (by decide) rfl ?_
    refine r_iinc 2 (nI (j + 1)) [(2, .int (nI (j + 1))), (1, .int (x1 + (tt_I st (tt_po o (Int32.toNatClampNeg (nI j))) 6))), (0, .ref (tt_ad G o))] hC d_se_wavesOfAll_24 rfl (by rw [nI_succ]; rfl) (by decide) rfl ?_
    refine r_goto (tgt := 4) hC d_se_wavesOfAll_27 (by decide) ?_
    exact tt_cast [2, 1, 0] rfl rfl (ih (j + 1) (x1 + (tt_I st (tt_po o (Int32.toNatClampNeg (nI j))) 6)) (by omega) (by simpa only [se_wavesOfAll_l4] using k))
def se_wavesOfAll (st : tt_St) (o : Nat) : Int32 := (se_wavesOfAll_l4 st o (Int32.toNatClampNeg (tt_I st o 1)) 0 0)
set_option maxHeartbeats 4000000 in
set_option maxRecDepth 20000 in
theorem c_se_wavesOfAll (G : tt_G) (st : tt_St) (o : Nat) (ho : tt_ci o = 2) (hI : tb_ok st) : tt_C y_se_wavesOfAll prog_4_method_6_code 3 (some .int) 0 0 G [.ref (tt_ad G o)] st (some (.int (se_wavesOfAll st o))) st := by
  refine tt_enter_pi (T := (se_wavesOfAll st o)) (by decide +kernel) (Nat.le_of_ble_eq_true rfl) (fun κ hC hR => ?_)
  rw [se_wavesOfAll]
  refine r_iconst (v := 0) hC d_se_wavesOfAll_0 (by decide) ?_
  refine r_istore_n [(1, .int 0), (0, .ref (tt_ad G o))] hC d_se_wavesOfAll_1 rfl (by decide) rfl ?_
  refine r_iconst (v := 0) hC d_se_wavesOfAll_2 (by decide) ?_
  refine r_istore_n [(2, .int 0), (1, .int 0), (0, .ref (tt_ad G o))] hC d_se_wavesOfAll_3 rfl (by decide) rfl ?_
  refine tt_cast [2, 1, 0] rfl rfl (l_se_wavesOfAll_4 hC st o ho hI (tt_cle (hI.2.1 o ho).2) (Int32.toNatClampNeg (tt_I st o 1)) 0 0 (by omega)  ?_)
  refine r_iload_n 0 hC d_se_wavesOfAll_30 rfl ?_
  exact r_iret_pi hC hR d_se_wavesOfAll_31 rfl
/-! TideTable$Sea.followers()I -/
def se_followers_l4 (st : tt_St) (o : Nat) : Nat → Nat → Int32 → Int32
  | 0, j, x1 => x1
  | n + 1, j, x1 => (se_followers_l4 st o n (j + 1) (if (tt_I st (tt_po o (Int32.toNatClampNeg (nI j))) 0) = 3 then (x1 + 1) else x1 : Int32))
set_option maxHeartbeats 4000000 in
set_option maxRecDepth 20000 in
theorem l_se_followers_4 {α : Type} {G : tt_G} {κ : tt_X α} {T : α} (hC : tt_Cx G κ prog_4_method_7_code "TideTable$Sea" 3 0 0) (st : tt_St) (o : Nat) (ho : tt_ci o = 2) (hI : tb_ok st) (hN : (Int32.toNatClampNeg (tt_I st o 1)) ≤ 4) : ∀ (n j : Nat) (x1 : Int32), j + n = (Int32.toNatClampNeg (tt_I st o 1)) → tt_V G κ T st 34 [(1, .int (se_followers_l4 st o n j x1))] [] → tt_V G κ T st 4 [(0, .ref (tt_ad G o)), (1, .int x1), (2, .int (nI j))] [] := by
  intro n
  induction n with
  | zero =>
    intro j x1 hj k
    refine r_iload_n 2 hC d_se_followers_4 rfl ?_
    refine r_aload_n 0 hC d_se_followers_5 rfl ?_
    refine r_getI hC d_se_followers_6 fl_se_18 rfl ho ?_
    refine t_icmp_ge (tgt := 34) hC d_se_followers_9 (by decide) (tt_end (hI.2.1 o ho).1 (by omega) (by omega)) ?_
    exact tt_cast [1] rfl rfl k
  | succ n ih =>
    intro j x1 hj k
    refine r_iload_n 2 hC d_se_followers_4 rfl ?_
    refine r_aload_n 0 hC d_se_followers_5 rfl ?_
    refine r_getI hC d_se_followers_6 fl_se_18 rfl ho ?_
    refine f_icmp_ge (tgt := 34) hC d_se_followers_9 (by decide) (tt_stay (by omega)) ?_
    refine r_aload_n 0 hC d_se_followers_12 rfl ?_
    refine r_getR (r := (o + 2)) hC d_se_followers_13 fl_se_11 rfl ho (tt_R_se ho) ?_
    refine r_iload_n 2 hC d_se_followers_16 rfl ?_
    have hb_17 : vp_in (nI j) 4 := (vp_in_nI (by omega) (by omega))
    refine r_aald (r := (tt_po o (Int32.toNatClampNeg (nI j)))) (C := "TideTable$Port") hC d_se_followers_17 (tt_ar_se ho).1 (tt_ar_se ho).2.1 (tt_ar_se ho).2.2.1 (by decide) (fun _ => rfl) (tt_ar_se ho).2.2.2 hb_17 (tt_po_RA ho) ?_
    refine r_getI hC d_se_followers_18 fl_se_33 rfl (tt_po_ci ho hb_17) ?_
    refine r_iconst (v := 3) hC d_se_followers_21 (by decide) ?_
    refine tt_join 28 [(0, .ref (tt_ad G o)), (1, .int (if (tt_I st (tt_po o (Int32.toNatClampNeg (nI j))) 0) = 3 then (x1 + 1) else x1 : Int32)), (2, .int (nI j))] [] ?_ (fun kj_22 => ?_)
    ·
      refine r_iinc 2 (nI (j + 1)) [(2, .int (nI (j + 1))), (0, .ref (tt_ad G o)), (1, .int (if (tt_I st (tt_po o (Int32.toNatClampNeg (nI j))) 0) = 3 then (x1 + 1) else x1 : Int32))] hC d_se_followers_28 rfl (by rw [nI_succ]; rfl) (by decide) rfl ?_
      refine r_goto (tgt := 4) hC d_se_followers_31 (by decide) ?_
      exact tt_cast [1, 2, 0] rfl rfl (ih (j + 1) (if (tt_I st (tt_po o (Int32.toNatClampNeg (nI j))) 0) = 3 then (x1 + 1) else x1 : Int32) (by omega) (by simpa only [se_followers_l4] using k))
    ·
      refine j_icmp_ne (tgt := 28) hC d_se_followers_22 (by decide) (fun c_22 => ?_) (fun c_22 => ?_)
      ·
        exact tt_cast [0, 1, 2] (by simp only [if_neg c_22]; rfl) rfl kj_22
      ·
        refine r_iinc 1 (x1 + 1) [(1, .int (x1 + 1)), (0, .ref (tt_ad G o)), (2, .int (nI j))] hC d_se_followers_25 rfl rfl (by decide) rfl ?_
        exact tt_cast [1, 0, 2] (by simp only [if_pos c_22]; rfl) rfl kj_22
def se_followers (st : tt_St) (o : Nat) : Int32 := (se_followers_l4 st o (Int32.toNatClampNeg (tt_I st o 1)) 0 0)
set_option maxHeartbeats 4000000 in
set_option maxRecDepth 20000 in
theorem c_se_followers (G : tt_G) (st : tt_St) (o : Nat) (ho : tt_ci o = 2) (hI : tb_ok st) : tt_C y_se_followers prog_4_method_7_code 3 (some .int) 0 0 G [.ref (tt_ad G o)] st (some (.int (se_followers st o))) st := by
  refine tt_enter_pi (T := (se_followers st o)) (by decide +kernel) (Nat.le_of_ble_eq_true rfl) (fun κ hC hR => ?_)
  rw [se_followers]
  refine r_iconst (v := 0) hC d_se_followers_0 (by decide) ?_
  refine r_istore_n [(1, .int 0), (0, .ref (tt_ad G o))] hC d_se_followers_1 rfl (by decide) rfl ?_
  refine r_iconst (v := 0) hC d_se_followers_2 (by decide) ?_
  refine r_istore_n [(2, .int 0), (1, .int 0), (0, .ref (tt_ad G o))] hC d_se_followers_3 rfl (by decide) rfl ?_
  refine tt_cast [2, 1, 0] rfl rfl (l_se_followers_4 hC st o ho hI (tt_cle (hI.2.1 o ho).2) (Int32.toNatClampNeg (tt_I st o 1)) 0 0 (by omega)  ?_)
  refine r_iload_n 0 hC d_se_followers_34 rfl ?_
  exact r_iret_pi hC hR d_se_followers_35 rfl
/-! TideTable$Sea.greatestOnDay0()I -/
def se_greatestOnDay0_l19 (st : tt_St) (o : Nat) (x2 : Int32) : Nat → Nat → Int32 → Int32
  | 0, j, x1 => x1
  | n + 1, j, x1 => (se_greatestOnDay0_l19 st o x2 n (j + 1) (ma_max x1 (se_heightAt st o x2 (nI j))))
set_option maxHeartbeats 4000000 in
set_option maxRecDepth 20000 in
theorem l_se_greatestOnDay0_19 {α : Type} {G : tt_G} {κ : tt_X α} {T : α} (hC : tt_Cx G κ prog_4_method_8_code "TideTable$Sea" 4 5 118) (st : tt_St) (o : Nat) (x2 : Int32) (ho : tt_ci o = 2) (hI : tb_ok st) : ∀ (n j : Nat) (x1 : Int32), j + n = 144 → tt_V G κ T st 43 [(0, .ref (tt_ad G o)), (1, .int (se_greatestOnDay0_l19 st o x2 n j x1)), (2, .int x2)] [] → tt_V G κ T st 19 [(0, .ref (tt_ad G o)), (1, .int x1), (2, .int x2), (3, .int (nI j))] [] := by
  intro n
  induction n with
  | zero =>
    intro j x1 hj k
    refine r_iload_n 3 hC d_se_greatestOnDay0_19 rfl ?_
    refine r_sipush (v := 144) hC d_se_greatestOnDay0_20 (by decide) ?_
    refine t_icmp_ge (tgt := 43) hC d_se_greatestOnDay0_23 (by decide) (nI_le (a := 144) (by omega) (by omega)) ?_
    exact tt_cast [0, 1, 2] rfl rfl k
  | succ n ih =>
    intro j x1 hj k
    refine r_iload_n 3 hC d_se_greatestOnDay0_19 rfl ?_
    refine r_sipush (v := 144) hC d_se_greatestOnDay0_20 (by decide) ?_
    refine f_icmp_ge (tgt := 43) hC d_se_greatestOnDay0_23 (by decide) (nI_ge (a := j) (b := 144) (by omega) (by omega)) ?_
    refine r_iload_n 1 hC d_se_greatestOnDay0_26 rfl ?_
    refine r_aload_n 0 hC d_se_greatestOnDay0_27 rfl ?_
    refine r_iload_n 2 hC d_se_greatestOnDay0_28 rfl ?_
    refine r_iload_n 3 hC d_se_greatestOnDay0_29 rfl ?_
    refine r_callV (o := o) (rest := [.int x1]) (stk1 := [.int (se_heightAt st o x2 (nI j)), .int x1]) hC d_se_greatestOnDay0_30 (c_se_heightAt G st o x2 (nI j) ho hI) mw_se_heightAt mi_se_heightAt mz_se_heightAt ml_se_55 ho rfl rfl rfl rfl (Nat.le_of_ble_eq_true rfl) rfl ?_
    refine r_callS (rest := []) (stk1 := [.int (ma_max x1 (se_heightAt st o x2 (nI j)))]) hC d_se_greatestOnDay0_33 (c_ma_max G st x1 (se_heightAt st o x2 (nI j))) mw_ma_max ms_ma_max ml_se_59 rfl rfl rfl (Nat.le_of_ble_eq_true rfl) rfl ?_
    refine r_istore_n [(1, .int (ma_max x1 (se_heightAt st o x2 (nI j)))), (0, .ref (tt_ad G o)), (2, .int x2), (3, .int (nI j))] hC d_se_greatestOnDay0_36 rfl (by decide) rfl ?_
    refine r_iinc 3 (nI (j + 1)) [(3, .int (nI (j + 1))), (1, .int (ma_max x1 (se_heightAt st o x2 (nI j)))), (0, .ref (tt_ad G o)), (2, .int x2)] hC d_se_greatestOnDay0_37 rfl (by rw [nI_succ]; rfl) (by decide) rfl ?_
    refine r_goto (tgt := 19) hC d_se_greatestOnDay0_40 (by decide) ?_
    exact tt_cast [2, 1, 3, 0] rfl rfl (ih (j + 1) (ma_max x1 (se_heightAt st o x2 (nI j))) (by omega) (by simpa only [se_greatestOnDay0_l19] using k))
def se_greatestOnDay0_l9 (st : tt_St) (o : Nat) : Nat → Nat → Int32 → Int32
  | 0, j, x1 => x1
  | n + 1, j, x1 => (se_greatestOnDay0_l9 st o n (j + 1) (se_greatestOnDay0_l19 st o (nI j) 144 0 x1))
set_option maxHeartbeats 4000000 in
set_option maxRecDepth 20000 in
theorem l_se_greatestOnDay0_9 {α : Type} {G : tt_G} {κ : tt_X α} {T : α} (hC : tt_Cx G κ prog_4_method_8_code "TideTable$Sea" 4 5 118) (st : tt_St) (o : Nat) (ho : tt_ci o = 2) (hI : tb_ok st) (hN : (Int32.toNatClampNeg (tt_I st o 1)) ≤ 4) : ∀ (n j : Nat) (x1 : Int32), j + n = (Int32.toNatClampNeg (tt_I st o 1)) → tt_V G κ T st 49 [(1, .int (se_greatestOnDay0_l9 st o n j x1))] [] → tt_V G κ T st 9 [(0, .ref (tt_ad G o)), (1, .int x1), (2, .int (nI j))] [] := by
  intro n
  induction n with
  | zero =>
    intro j x1 hj k
    refine r_iload_n 2 hC d_se_greatestOnDay0_9 rfl ?_
    refine r_aload_n 0 hC d_se_greatestOnDay0_10 rfl ?_
    refine r_getI hC d_se_greatestOnDay0_11 fl_se_18 rfl ho ?_
    refine t_icmp_ge (tgt := 49) hC d_se_greatestOnDay0_14 (by decide) (tt_end (hI.2.1 o ho).1 (by omega) (by omega)) ?_
    exact tt_cast [1] rfl rfl k
  | succ n ih =>
    intro j x1 hj k
    refine r_iload_n 2 hC d_se_greatestOnDay0_9 rfl ?_
    refine r_aload_n 0 hC d_se_greatestOnDay0_10 rfl ?_
    refine r_getI hC d_se_greatestOnDay0_11 fl_se_18 rfl ho ?_
    refine f_icmp_ge (tgt := 49) hC d_se_greatestOnDay0_14 (by decide) (tt_stay (by omega)) ?_
    refine r_iconst (v := 0) hC d_se_greatestOnDay0_17 (by decide) ?_
    refine r_istore_n [(3, .int 0), (0, .ref (tt_ad G o)), (1, .int x1), (2, .int (nI j))] hC d_se_greatestOnDay0_18 rfl (by decide) rfl ?_
    refine tt_cast [1, 2, 3, 0] rfl rfl (l_se_greatestOnDay0_19 hC st o (nI j) ho hI 144 0 x1 (by omega)  ?_)
    refine r_iinc 2 (nI (j + 1)) [(2, .int (nI (j + 1))), (0, .ref (tt_ad G o)), (1, .int (se_greatestOnDay0_l19 st o (nI j) 144 0 x1))] hC d_se_greatestOnDay0_43 rfl (by rw [nI_succ]; rfl) (by decide) rfl ?_
    refine r_goto (tgt := 9) hC d_se_greatestOnDay0_46 (by decide) ?_
    exact tt_cast [1, 2, 0] rfl rfl (ih (j + 1) (se_greatestOnDay0_l19 st o (nI j) 144 0 x1) (by omega) (by simpa only [se_greatestOnDay0_l9] using k))
def se_greatestOnDay0 (st : tt_St) (o : Nat) : Int32 := (se_greatestOnDay0_l9 st o (Int32.toNatClampNeg (tt_I st o 1)) 0 (se_heightAt st o 0 0))
set_option maxHeartbeats 4000000 in
set_option maxRecDepth 20000 in
theorem c_se_greatestOnDay0 (G : tt_G) (st : tt_St) (o : Nat) (ho : tt_ci o = 2) (hI : tb_ok st) : tt_C y_se_greatestOnDay0 prog_4_method_8_code 4 (some .int) 5 118 G [.ref (tt_ad G o)] st (some (.int (se_greatestOnDay0 st o))) st := by
  refine tt_enter_pi (T := (se_greatestOnDay0 st o)) (by decide +kernel) (Nat.le_of_ble_eq_true rfl) (fun κ hC hR => ?_)
  rw [se_greatestOnDay0]
  refine r_aload_n 0 hC d_se_greatestOnDay0_0 rfl ?_
  refine r_iconst (v := 0) hC d_se_greatestOnDay0_1 (by decide) ?_
  refine r_iconst (v := 0) hC d_se_greatestOnDay0_2 (by decide) ?_
  refine r_callV (o := o) (rest := []) (stk1 := [.int (se_heightAt st o 0 0)]) hC d_se_greatestOnDay0_3 (c_se_heightAt G st o 0 0 ho hI) mw_se_heightAt mi_se_heightAt mz_se_heightAt ml_se_55 ho rfl rfl rfl rfl (Nat.le_of_ble_eq_true rfl) rfl ?_
  refine r_istore_n [(1, .int (se_heightAt st o 0 0)), (0, .ref (tt_ad G o))] hC d_se_greatestOnDay0_6 rfl (by decide) rfl ?_
  refine r_iconst (v := 0) hC d_se_greatestOnDay0_7 (by decide) ?_
  refine r_istore_n [(2, .int 0), (1, .int (se_heightAt st o 0 0)), (0, .ref (tt_ad G o))] hC d_se_greatestOnDay0_8 rfl (by decide) rfl ?_
  refine tt_cast [2, 1, 0] rfl rfl (l_se_greatestOnDay0_9 hC st o ho hI (tt_cle (hI.2.1 o ho).2) (Int32.toNatClampNeg (tt_I st o 1)) 0 (se_heightAt st o 0 0) (by omega)  ?_)
  refine r_iload_n 0 hC d_se_greatestOnDay0_49 rfl ?_
  exact r_iret_pi hC hR d_se_greatestOnDay0_50 rfl
/-! TideTable$Sea.fill([IIII)V -/
def se_fill_l3 (o : Nat) (a1 : Nat) (a2 : Int32) (a3 : Int32) (a4 : Int32) : Nat → Nat → tt_St → tt_St
  | 0, j, st => st
  | n + 1, j, st => (se_fill_l3 o a1 a2 a3 a4 n (j + 1) (tt_pA st a1 (Int32.toNatClampNeg (nI j)) (se_heightAt st o a2 (a3 + (nI j)))))
set_option maxHeartbeats 4000000 in
set_option maxRecDepth 20000 in
theorem l_se_fill_3 {α : Type} {G : tt_G} {κ : tt_X α} {T : α} (hC : tt_Cx G κ prog_4_method_5_code "TideTable$Sea" 6 5 118) (o : Nat) (a1 : Nat) (a2 : Int32) (a3 : Int32) (a4 : Int32) (ho : tt_ci o = 2) (ha1 : tt_ci a1 = 9) (ha2 : a1 < 76) (ha3 : tt_at a1 = 0) (ha4 : tt_len a1 = 344) (hl : 0 ≤ a4.toInt ∧ a4.toInt ≤ 344) (hN : (Int32.toNatClampNeg a4) ≤ 344) : ∀ (n j : Nat) (st : tt_St), j + n = (Int32.toNatClampNeg a4) → tb_ok st → tt_V G κ T (se_fill_l3 o a1 a2 a3 a4 n j st) 36 [] [] → tt_V G κ T st 3 [(0, .ref (tt_ad G o)), (1, .ref (tt_ad G a1)), (2, .int a2), (3, .int a3), (4, .int a4), (5, .int (nI j))] [] := by
  intro n
  induction n with
  | zero =>
    intro j st hj hI k
    refine r_iload 5 hC d_se_fill_3 rfl ?_
    refine r_iload 4 hC d_se_fill_5 rfl ?_
    refine t_icmp_ge (tgt := 36) hC d_se_fill_7 (by decide) (tt_end hl.1 (by omega) (by omega)) ?_
    exact tt_cast [] rfl rfl k
  | succ n ih =>
    intro j st hj hI k
    refine r_iload 5 hC d_se_fill_3 rfl ?_
    refine r_iload 4 hC d_se_fill_5 rfl ?_
    refine f_icmp_ge (tgt := 36) hC d_se_fill_7 (by decide) (tt_stay (by omega)) ?_
    refine r_iload 5 hC d_se_fill_10 rfl ?_
    refine r_aload_n 1 hC d_se_fill_12 rfl ?_
    refine r_alen (v := 344) hC d_se_fill_13 ha1 ha2 ha3 ha4 (by decide) ?_
    refine f_icmp_ge (tgt := 36) hC d_se_fill_14 (by decide) (nI_ge (a := j) (b := 344) (by omega) (by omega)) ?_
    refine r_aload_n 1 hC d_se_fill_17 rfl ?_
    refine r_iload 5 hC d_se_fill_18 rfl ?_
    refine r_aload_n 0 hC d_se_fill_20 rfl ?_
    refine r_iload_n 2 hC d_se_fill_21 rfl ?_
    refine r_iload_n 3 hC d_se_fill_22 rfl ?_
    refine r_iload 5 hC d_se_fill_23 rfl ?_
    refine r_iadd hC d_se_fill_25 ?_
    refine r_callV (o := o) (rest := [.int (nI j), .ref (tt_ad G a1)]) (stk1 := [.int (se_heightAt st o a2 (a3 + (nI j))), .int (nI j), .ref (tt_ad G a1)]) hC d_se_fill_26 (c_se_heightAt G st o a2 (a3 + (nI j)) ho hI) mw_se_heightAt mi_se_heightAt mz_se_heightAt ml_se_55 ho rfl rfl rfl rfl (Nat.le_of_ble_eq_true rfl) rfl ?_
    refine r_iast hC d_se_fill_29 ha1 ha2 ha3 ha4 (vp_in_nI (by omega) (by omega)) ?_
    refine r_iinc 5 (nI (j + 1)) [(5, .int (nI (j + 1))), (0, .ref (tt_ad G o)), (1, .ref (tt_ad G a1)), (2, .int a2), (3, .int a3), (4, .int a4)] hC d_se_fill_30 rfl (by rw [nI_succ]; rfl) (by decide) rfl ?_
    refine r_goto (tgt := 3) hC d_se_fill_33 (by decide) ?_
    exact tt_cast [1, 2, 3, 4, 5, 0] rfl rfl (ih (j + 1) (tt_pA st a1 (Int32.toNatClampNeg (nI j)) (se_heightAt st o a2 (a3 + (nI j)))) (by omega) hI (by simpa only [se_fill_l3] using k))
def se_fill (st : tt_St) (o : Nat) (a1 : Nat) (a2 : Int32) (a3 : Int32) (a4 : Int32) : tt_St := (se_fill_l3 o a1 a2 a3 a4 (Int32.toNatClampNeg a4) 0 st)
set_option maxHeartbeats 4000000 in
set_option maxRecDepth 20000 in
theorem c_se_fill (G : tt_G) (st : tt_St) (o : Nat) (a1 : Nat) (a2 : Int32) (a3 : Int32) (a4 : Int32) (ho : tt_ci o = 2) (hI : tb_ok st) (ha1 : tt_ci a1 = 9) (ha2 : a1 < 76) (ha3 : tt_at a1 = 0) (ha4 : tt_len a1 = 344) (hl : 0 ≤ a4.toInt ∧ a4.toInt ≤ 344) : tt_C y_se_fill prog_4_method_5_code 6 none 5 118 G [.ref (tt_ad G o), .ref (tt_ad G a1), .int a2, .int a3, .int a4] st none (se_fill st o a1 a2 a3 a4) := by
  refine tt_enter_sv (T := (se_fill st o a1 a2 a3 a4)) (by decide +kernel) (Nat.le_of_ble_eq_true rfl) (fun κ hC hR => ?_)
  rw [se_fill]
  refine r_iconst (v := 0) hC d_se_fill_0 (by decide) ?_
  refine r_istore [(5, .int 0), (0, .ref (tt_ad G o)), (1, .ref (tt_ad G a1)), (2, .int a2), (3, .int a3), (4, .int a4)] hC d_se_fill_1 (by decide) rfl ?_
  refine tt_cast [1, 2, 3, 4, 5, 0] rfl rfl (l_se_fill_3 hC o a1 a2 a3 a4 ho ha1 ha2 ha3 ha4 hl (tt_cle hl.2) (Int32.toNatClampNeg a4) 0 st (by omega) hI ?_)
  exact r_vret_sv hC hR d_se_fill_36

/-! TideTable$Port.become(LTideTable$Port;)V -/
def po_become_l30 (o : Nat) (a1 : Nat) (m : Nat) : Nat → Nat → tt_St → tt_St
  | 0, j, st => st
  | n + 1, j, st => (po_become_l30 o a1 m n (j + 1) (po_putWave st o (tt_I st (tt_wv a1 (Int32.toNatClampNeg (nI j))) 0) (tt_I st (tt_wv a1 (Int32.toNatClampNeg (nI j))) 1) (tt_I st (tt_wv a1 (Int32.toNatClampNeg (nI j))) 2)))
set_option maxHeartbeats 4000000 in
set_option maxRecDepth 20000 in
theorem l_po_become_30 {α : Type} {G : tt_G} {κ : tt_X α} {T : α} (hC : tt_Cx G κ prog_3_method_3_code "TideTable$Port" 4 2 46) (o : Nat) (a1 : Nat) (m : Nat) (ho : tt_ci o = 1) (h1 : tt_ci a1 = 1) (hne : a1 ≠ o) (hm : m ≤ 3) : ∀ (n j : Nat) (st : tt_St), j + n = m → tb_ok st → tt_I st a1 6 = nI m → tt_V G κ T (po_become_l30 o a1 m n j st) 67 [] [] → tt_V G κ T st 30 [(0, .ref (tt_ad G o)), (1, .ref (tt_ad G a1)), (2, .int (nI j))] [] := by
  intro n
  induction n with
  | zero =>
    intro j st hj hI hb k
    refine r_iload_n 2 hC d_po_become_30 rfl ?_
    refine r_aload_n 1 hC d_po_become_31 rfl ?_
    refine r_getI hC d_po_become_32 fl_po_34 rfl h1 ?_
    refine t_icmp_ge (tgt := 67) hC d_po_become_35 (by decide) (by rw [hb]; exact nI_le (by omega) (by omega)) ?_
    exact tt_cast [] rfl rfl k
  | succ n ih =>
    intro j st hj hI hb k
    refine r_iload_n 2 hC d_po_become_30 rfl ?_
    refine r_aload_n 1 hC d_po_become_31 rfl ?_
    refine r_getI hC d_po_become_32 fl_po_34 rfl h1 ?_
    refine f_icmp_ge (tgt := 67) hC d_po_become_35 (by decide) (by rw [hb]; exact nI_ge (a := j) (b := m) (by omega) (by omega)) ?_
    refine r_aload_n 1 hC d_po_become_38 rfl ?_
    refine r_getR (r := (a1 + 8)) hC d_po_become_39 fl_po_17 rfl h1 (tt_R_po h1) ?_
    refine r_iload_n 2 hC d_po_become_42 rfl ?_
    have hb_43 : vp_in (nI j) 3 := (vp_in_nI (by omega) (by omega))
    refine r_aald (r := (tt_wv a1 (Int32.toNatClampNeg (nI j)))) (C := "TideTable$Wave") hC d_po_become_43 (tt_ar_po h1).1 (tt_ar_po h1).2.1 (tt_ar_po h1).2.2.1 (by decide) (fun _ => rfl) (tt_ar_po h1).2.2.2 hb_43 (tt_wv_RA h1) ?_
    refine r_astore_n [(3, .ref (tt_ad G (tt_wv a1 (Int32.toNatClampNeg (nI j))))), (0, .ref (tt_ad G o)), (1, .ref (tt_ad G a1)), (2, .int (nI j))] hC d_po_become_44 rfl (by decide) rfl ?_
    refine r_aload_n 1 hC d_po_become_45 rfl ?_
    refine r_aload_n 0 hC d_po_become_46 rfl ?_
    refine r_getI hC d_po_become_47 fl_po_41 rfl (tt_wv_ci h1 hb_43) ?_
    refine r_aload_n 0 hC d_po_become_50 rfl ?_
    refine r_getI hC d_po_become_51 fl_po_44 rfl (tt_wv_ci h1 hb_43) ?_
    refine r_aload_n 0 hC d_po_become_54 rfl ?_
    refine r_getI hC d_po_become_55 fl_po_47 rfl (tt_wv_ci h1 hb_43) ?_
    refine r_callV (o := o) (rest := []) (stk1 := []) hC d_po_become_58 (c_po_putWave G st o (tt_I st (tt_wv a1 (Int32.toNatClampNeg (nI j))) 0) (tt_I st (tt_wv a1 (Int32.toNatClampNeg (nI j))) 1) (tt_I st (tt_wv a1 (Int32.toNatClampNeg (nI j))) 2) ho hI) mw_po_putWave mi_po_putWave mz_po_putWave ml_po_50 ho rfl rfl rfl rfl (Nat.le_of_ble_eq_true rfl) rfl ?_
    refine r_iinc 3 (nI (j + 1)) [(2, .int (nI (j + 1))), (3, .ref (tt_ad G (tt_wv a1 (Int32.toNatClampNeg (nI j))))), (0, .ref (tt_ad G o)), (1, .ref (tt_ad G a1))] hC d_po_become_61 rfl (by rw [nI_succ]; rfl) (by decide) rfl ?_
    refine r_goto (tgt := 30) hC d_po_become_64 (by decide) ?_
    exact tt_cast [2, 3, 0] rfl rfl (ih (j + 1) (po_putWave st o (tt_I st (tt_wv a1 (Int32.toNatClampNeg (nI j))) 0) (tt_I st (tt_wv a1 (Int32.toNatClampNeg (nI j))) 1) (tt_I st (tt_wv a1 (Int32.toNatClampNeg (nI j))) 2)) (by omega) (po_putWave_ok hI ho) (by rw [po_putWave_ne ho hne (by omega) hI]; exact hb) (by simpa only [po_become_l30] using k))
def po_become (st : tt_St) (o : Nat) (a1 : Nat) : tt_St := (po_become_l30 o a1 (Int32.toNatClampNeg (tt_I st a1 6)) (Int32.toNatClampNeg (tt_I st a1 6)) 0 (tt_pI (po_begin st o (tt_I st a1 0) (tt_I st a1 1) (tt_I st a1 2) (tt_I st a1 3)) o 4 (tt_I (po_begin st o (tt_I st a1 0) (tt_I st a1 1) (tt_I st a1 2) (tt_I st a1 3)) a1 4)))
set_option maxHeartbeats 4000000 in
set_option maxRecDepth 20000 in
theorem c_po_become (G : tt_G) (st : tt_St) (o : Nat) (a1 : Nat) (ho : tt_ci o = 1) (hI : tb_ok st) (h1 : tt_ci a1 = 1) (hne : a1 ≠ o) : tt_C y_po_become prog_3_method_3_code 4 none 2 46 G [.ref (tt_ad G o), .ref (tt_ad G a1)] st none (po_become st o a1) := by
  refine tt_enter_sv (T := (po_become st o a1)) (by decide +kernel) (Nat.le_of_ble_eq_true rfl) (fun κ hC hR => ?_)
  rw [po_become]
  refine r_aload_n 0 hC d_po_become_0 rfl ?_
  refine r_aload_n 1 hC d_po_become_1 rfl ?_
  refine r_getI hC d_po_become_2 fl_po_22 rfl h1 ?_
  refine r_aload_n 1 hC d_po_become_5 rfl ?_
  refine r_getI hC d_po_become_6 fl_po_25 rfl h1 ?_
  refine r_aload_n 1 hC d_po_become_9 rfl ?_
  refine r_getI hC d_po_become_10 fl_po_28 rfl h1 ?_
  refine r_aload_n 1 hC d_po_become_13 rfl ?_
  refine r_getI hC d_po_become_14 fl_po_31 rfl h1 ?_
  refine r_callV (o := o) (rest := []) (stk1 := []) hC d_po_become_17 (c_po_begin G st o (tt_I st a1 0) (tt_I st a1 1) (tt_I st a1 2) (tt_I st a1 3) ho) mw_po_begin mi_po_begin mz_po_begin ml_po_37 ho rfl rfl rfl rfl (Nat.le_of_ble_eq_true rfl) rfl ?_
  refine r_aload_n 0 hC d_po_become_20 rfl ?_
  refine r_aload_n 1 hC d_po_become_21 rfl ?_
  refine r_getI hC d_po_become_22 fl_po_9 rfl h1 ?_
  refine r_putI hC d_po_become_25 fl_po_9 fp_1_4 rfl ho rfl rfl ?_
  refine r_iconst (v := 0) hC d_po_become_28 (by decide) ?_
  refine r_istore_n [(2, .int 0), (0, .ref (tt_ad G o)), (1, .ref (tt_ad G a1))] hC d_po_become_29 rfl (by decide) rfl ?_
  refine tt_cast [1, 2, 0] rfl rfl (l_po_become_30 hC o a1 (Int32.toNatClampNeg (tt_I st a1 6)) ho h1 hne (tt_cle (hI.1 a1 h1).2) (Int32.toNatClampNeg (tt_I st a1 6)) 0 (tt_pI (po_begin st o (tt_I st a1 0) (tt_I st a1 1) (tt_I st a1 2) (tt_I st a1 3)) o 4 (tt_I (po_begin st o (tt_I st a1 0) (tt_I st a1 1) (tt_I st a1 2) (tt_I st a1 3)) a1 4)) (by omega) (tb_ok_pI (po_begin_ok hI ho) (by decide) (by decide)) (by rw [tt_pI_ne hne, po_begin_ne hne]; exact (tt_nIc (hI.1 a1 h1).1).symm) ?_)
  exact r_vret_sv hC hR d_po_become_67
/-! TideTable$Page.numberAt(I)I -/
def pg_numberAt (st : tt_St) (a1 : Int32) : Int32 := (if a1 < 0 then 0 else (if (a1 + 1) < (tt_I st 1 1) then (((10 * ((tt_A st 2 (Int32.toNatClampNeg a1)) - 48)) + (tt_A st 2 (Int32.toNatClampNeg (a1 + 1)))) - 48) else 0))
set_option maxHeartbeats 4000000 in
set_option maxRecDepth 20000 in
theorem c_pg_numberAt (G : tt_G) (st : tt_St) (a1 : Int32) (hI : tb_ok st) (ha : a1.toInt ≤ 1000) : tt_C y_pg_numberAt prog_2_method_9_code 2 (some .int) 0 0 G [.ref (tt_ad G 1), .int a1] st (some (.int (pg_numberAt st a1))) st := by
  refine tt_enter_pi (T := (pg_numberAt st a1)) (by decide +kernel) (Nat.le_of_ble_eq_true rfl) (fun κ hC hR => ?_)
  rw [pg_numberAt]
  refine r_iload_n 1 hC d_pg_numberAt_0 rfl ?_
  refine r_if_lt (tgt := 14) hC d_pg_numberAt_1 (by decide) (fun c_1 => ?_) (fun c_1 => ?_)
  ·
    refine r_iconst (v := 0) hC d_pg_numberAt_14 (by decide) ?_
    exact r_iret_pi hC hR d_pg_numberAt_15 rfl
  ·
    refine r_iload_n 1 hC d_pg_numberAt_4 rfl ?_
    refine r_iconst (v := 1) hC d_pg_numberAt_5 (by decide) ?_
    refine r_iadd hC d_pg_numberAt_6 ?_
    refine r_aload_n 0 hC d_pg_numberAt_7 rfl ?_
    refine r_getI hC d_pg_numberAt_8 fl_pg_22 rfl rfl ?_
    refine r_icmp_lt (tgt := 16) hC d_pg_numberAt_11 (by decide) (fun c_11 => ?_) (fun c_11 => ?_)
    ·
      refine r_bipush (v := 10) hC d_pg_numberAt_16 (by decide) ?_
      refine r_aload_n 0 hC d_pg_numberAt_18 rfl ?_
      refine r_getR (r := 2) hC d_pg_numberAt_19 fl_pg_9 rfl rfl rfl ?_
      refine r_iload_n 1 hC d_pg_numberAt_22 rfl ?_
      refine r_iald (n := 96) hC d_pg_numberAt_23 rfl (by decide) rfl rfl (pg_num_i hI ha c_1 c_11).1 ?_
      refine r_bipush (v := 48) hC d_pg_numberAt_24 (by decide) ?_
      refine r_isub hC d_pg_numberAt_26 ?_
      refine r_imul hC d_pg_numberAt_27 ?_
      refine r_aload_n 0 hC d_pg_numberAt_28 rfl ?_
      refine r_getR (r := 2) hC d_pg_numberAt_29 fl_pg_9 rfl rfl rfl ?_
      refine r_iload_n 1 hC d_pg_numberAt_32 rfl ?_
      refine r_iconst (v := 1) hC d_pg_numberAt_33 (by decide) ?_
      refine r_iadd hC d_pg_numberAt_34 ?_
      refine r_iald (n := 96) hC d_pg_numberAt_35 rfl (by decide) rfl rfl (pg_num_i hI ha c_1 c_11).2 ?_
      refine r_iadd hC d_pg_numberAt_36 ?_
      refine r_bipush (v := 48) hC d_pg_numberAt_37 (by decide) ?_
      refine r_isub hC d_pg_numberAt_39 ?_
      exact r_iret_pi hC hR d_pg_numberAt_40 rfl
    ·
      refine r_iconst (v := 0) hC d_pg_numberAt_14 (by decide) ?_
      exact r_iret_pi hC hR d_pg_numberAt_15 rfl
/-! TideTable$Page.canEndAhead(I)Z -/
def pg_canEndAhead (st : tt_St) (a1 : Int32) : Int32 := (if 7 ≤ (a1 - (tt_I st 1 2)) then (if (tt_A st 2 (Int32.toNatClampNeg (tt_I st 1 2))) = 102 then (if (a1 - (tt_I st 1 2)) = 7 then 1 else 0) else (if (((a1 - (tt_I st 1 2)) - 5) - ((a1 - (tt_I st 1 2)) - 5) / 6 * 6) = 0 then 1 else 0)) else 0)
set_option maxHeartbeats 4000000 in
set_option maxRecDepth 20000 in
theorem c_pg_canEndAhead (G : tt_G) (st : tt_St) (a1 : Int32) (hp : 0 ≤ a1.toInt ∧ a1.toInt ≤ 96) (hs : 0 ≤ (tt_I st 1 2).toInt ∧ (tt_I st 1 2).toInt ≤ 96) : tt_C y_pg_canEndAhead prog_2_method_4_code 3 (some .boolean) 0 0 G [.ref (tt_ad G 1), .int a1] st (some (.int (pg_canEndAhead st a1))) st := by
  refine tt_enter_pi (T := (pg_canEndAhead st a1)) (by decide +kernel) (Nat.le_of_ble_eq_true rfl) (fun κ hC hR => ?_)
  rw [pg_canEndAhead]
  refine r_iload_n 1 hC d_pg_canEndAhead_0 rfl ?_
  refine r_aload_n 0 hC d_pg_canEndAhead_1 rfl ?_
  refine r_getI hC d_pg_canEndAhead_2 fl_pg_15 rfl rfl ?_
  refine r_isub hC d_pg_canEndAhead_5 ?_
  refine r_istore_n [(2, .int (a1 - (tt_I st 1 2))), (0, .ref (tt_ad G 1)), (1, .int a1)] hC d_pg_canEndAhead_6 rfl (by decide) rfl ?_
  refine r_iload_n 0 hC d_pg_canEndAhead_7 rfl ?_
  refine r_bipush (v := 7) hC d_pg_canEndAhead_8 (by decide) ?_
  refine r_icmp_ge (tgt := 15) hC d_pg_canEndAhead_10 (by decide) (fun c_10 => ?_) (fun c_10 => ?_)
  ·
    refine r_aload_n 1 hC d_pg_canEndAhead_15 rfl ?_
    refine r_getR (r := 2) hC d_pg_canEndAhead_16 fl_pg_9 rfl rfl rfl ?_
    refine r_aload_n 1 hC d_pg_canEndAhead_19 rfl ?_
    refine r_getI hC d_pg_canEndAhead_20 fl_pg_15 rfl rfl ?_
    refine r_iald (n := 96) hC d_pg_canEndAhead_23 rfl (by decide) rfl rfl (pg_cea hp hs c_10) ?_
    refine r_bipush (v := 102) hC d_pg_canEndAhead_24 (by decide) ?_
    refine r_icmp_ne (tgt := 41) hC d_pg_canEndAhead_26 (by decide) (fun c_26 => ?_) (fun c_26 => ?_)
    ·
      refine r_iload_n 0 hC d_pg_canEndAhead_41 rfl ?_
      refine r_iconst (v := 5) hC d_pg_canEndAhead_42 (by decide) ?_
      refine r_isub hC d_pg_canEndAhead_43 ?_
      refine r_bipush (v := 6) hC d_pg_canEndAhead_44 (by decide) ?_
      refine r_irem hC d_pg_canEndAhead_46 (by decide) ?_
      refine r_if_ne (tgt := 54) hC d_pg_canEndAhead_47 (by decide) (fun c_47 => ?_) (fun c_47 => ?_)
      ·
        refine r_iconst (v := 0) hC d_pg_canEndAhead_54 (by decide) ?_
        exact r_iret_pi hC hR d_pg_canEndAhead_55 rfl
      ·
        refine r_iconst (v := 1) hC d_pg_canEndAhead_50 (by decide) ?_
        refine r_goto (tgt := 55) hC d_pg_canEndAhead_51 (by decide) ?_
        exact r_iret_pi hC hR d_pg_canEndAhead_55 rfl
    ·
      refine r_iload_n 0 hC d_pg_canEndAhead_29 rfl ?_
      refine r_bipush (v := 7) hC d_pg_canEndAhead_30 (by decide) ?_
      refine r_icmp_ne (tgt := 39) hC d_pg_canEndAhead_32 (by decide) (fun c_32 => ?_) (fun c_32 => ?_)
      ·
        refine r_iconst (v := 0) hC d_pg_canEndAhead_39 (by decide) ?_
        exact r_iret_pi hC hR d_pg_canEndAhead_40 rfl
      ·
        refine r_iconst (v := 1) hC d_pg_canEndAhead_35 (by decide) ?_
        refine r_goto (tgt := 40) hC d_pg_canEndAhead_36 (by decide) ?_
        exact r_iret_pi hC hR d_pg_canEndAhead_40 rfl
  ·
    refine r_iconst (v := 0) hC d_pg_canEndAhead_13 (by decide) ?_
    exact r_iret_pi hC hR d_pg_canEndAhead_14 rfl
/-! TideTable$Page.fits(I)Z -/
def pg_fits (st : tt_St) (a1 : Int32) : Int32 := (if a1 = (tt_I st 1 2) then (if (tt_A st 2 (Int32.toNatClampNeg a1)) = 102 then (if (tt_I st 1 3) ≤ 0 then 0 else 1) else (if (pg_kindOf (tt_A st 2 (Int32.toNatClampNeg a1))) < 0 then 0 else 1)) else (if (if (if (tt_A st 2 (Int32.toNatClampNeg (tt_I st 1 2))) = 102 then 1 else 0 : Int32) = 0 then 23 else 7 : Int32) ≤ (((a1 - (tt_I st 1 2)) - 1) + 1) then 0 else (if (tb_within (tt_A st 2 (Int32.toNatClampNeg a1)) 48 57) = 0 then 0 else (if (((a1 - (tt_I st 1 2)) - 1) - ((a1 - (tt_I st 1 2)) - 1) / 2 * 2) = 0 then (if (if (if (if (tt_A st 2 (Int32.toNatClampNeg (tt_I st 1 2))) = 102 then 1 else 0 : Int32) = 0 then (if 4 ≤ ((a1 - (tt_I st 1 2)) - 1) then (((((a1 - (tt_I st 1 2)) - 1) - 4) / 2) - ((((a1 - (tt_I st 1 2)) - 1) - 4) / 2) / 3 * 3) else (-10001) : Int32) else (-10001) : Int32) = 2 then 63 else 99 : Int32) < (10 * ((tt_A st 2 (Int32.toNatClampNeg a1)) - 48)) then 0 else 1) else (tb_within ((10 * ((tt_A st 2 (Int32.toNatClampNeg (a1 - 1))) - 48)) + ((tt_A st 2 (Int32.toNatClampNeg a1)) - 48)) (if (if (if (tt_A st 2 (Int32.toNatClampNeg (tt_I st 1 2))) = 102 then 1 else 0 : Int32) = 0 then (if 4 ≤ ((a1 - (tt_I st 1 2)) - 1) then (((((a1 - (tt_I st 1 2)) - 1) - 4) / 2) - ((((a1 - (tt_I st 1 2)) - 1) - 4) / 2) / 3 * 3) else (-10001) : Int32) else (-10001) : Int32) = 0 then 1 else 0 : Int32) (if (if (if (tt_A st 2 (Int32.toNatClampNeg (tt_I st 1 2))) = 102 then 1 else 0 : Int32) = 0 then (if 4 ≤ ((a1 - (tt_I st 1 2)) - 1) then (((((a1 - (tt_I st 1 2)) - 1) - 4) / 2) - ((((a1 - (tt_I st 1 2)) - 1) - 4) / 2) / 3 * 3) else (-10001) : Int32) else (-10001) : Int32) = 2 then 63 else 99 : Int32))))))
set_option maxHeartbeats 4000000 in
set_option maxRecDepth 20000 in
theorem c_pg_fits (G : tt_G) (st : tt_St) (a1 : Int32) (hp : vp_in a1 96) (hs : 0 ≤ (tt_I st 1 2).toInt ∧ (tt_I st 1 2).toInt ≤ a1.toInt) : tt_C y_pg_fits prog_2_method_5_code 9 (some .boolean) 5 111 G [.ref (tt_ad G 1), .int a1] st (some (.int (pg_fits st a1))) st := by
  refine tt_enter_pi (T := (pg_fits st a1)) (by decide +kernel) (Nat.le_of_ble_eq_true rfl) (fun κ hC hR => ?_)
  rw [pg_fits]
  refine r_aload_n 0 hC d_pg_fits_0 rfl ?_
  refine r_getR (r := 2) hC d_pg_fits_1 fl_pg_9 rfl rfl rfl ?_
  refine r_iload_n 1 hC d_pg_fits_4 rfl ?_
  refine r_iald (n := 96) hC d_pg_fits_5 rfl (by decide) rfl rfl hp ?_
  refine r_istore_n [(2, .int (tt_A st 2 (Int32.toNatClampNeg a1))), (0, .ref (tt_ad G 1)), (1, .int a1)] hC d_pg_fits_6 rfl (by decide) rfl ?_
  refine r_iload_n 2 hC d_pg_fits_7 rfl ?_
  refine r_aload_n 1 hC d_pg_fits_8 rfl ?_
  refine r_getI hC d_pg_fits_9 fl_pg_15 rfl rfl ?_
  refine r_icmp_ne (tgt := 49) hC d_pg_fits_12 (by decide) (fun c_12 => ?_) (fun c_12 => ?_)
  ·
    refine r_aload_n 1 hC d_pg_fits_49 rfl ?_
    refine r_getR (r := 2) hC d_pg_fits_50 fl_pg_9 rfl rfl rfl ?_
    refine r_aload_n 1 hC d_pg_fits_53 rfl ?_
    refine r_getI hC d_pg_fits_54 fl_pg_15 rfl rfl ?_
    refine r_iald (n := 96) hC d_pg_fits_57 rfl (by decide) rfl rfl (pg_fit1 hp hs) ?_
    refine r_bipush (v := 102) hC d_pg_fits_58 (by decide) ?_
    refine tt_join 68 [(0, .ref (tt_ad G 1)), (1, .int a1), (2, .int (tt_A st 2 (Int32.toNatClampNeg a1)))] [.int (if (tt_A st 2 (Int32.toNatClampNeg (tt_I st 1 2))) = 102 then 1 else 0 : Int32)] ?_ (fun kj_60 => ?_)
    ·
      refine r_istore_n [(3, .int (if (tt_A st 2 (Int32.toNatClampNeg (tt_I st 1 2))) = 102 then 1 else 0 : Int32)), (0, .ref (tt_ad G 1)), (1, .int a1), (2, .int (tt_A st 2 (Int32.toNatClampNeg a1)))] hC d_pg_fits_68 rfl (by decide) rfl ?_
      refine r_iload_n 2 hC d_pg_fits_69 rfl ?_
      refine r_aload_n 1 hC d_pg_fits_70 rfl ?_
      refine r_getI hC d_pg_fits_71 fl_pg_15 rfl rfl ?_
      refine r_isub hC d_pg_fits_74 ?_
      refine r_iconst (v := 1) hC d_pg_fits_75 (by decide) ?_
      refine r_isub hC d_pg_fits_76 ?_
      refine r_istore [(4, .int ((a1 - (tt_I st 1 2)) - 1)), (3, .int (if (tt_A st 2 (Int32.toNatClampNeg (tt_I st 1 2))) = 102 then 1 else 0 : Int32)), (0, .ref (tt_ad G 1)), (1, .int a1), (2, .int (tt_A st 2 (Int32.toNatClampNeg a1)))] hC d_pg_fits_77 (by decide) rfl ?_
      refine r_iload 0 hC d_pg_fits_79 rfl ?_
      refine r_iconst (v := 1) hC d_pg_fits_81 (by decide) ?_
      refine r_iadd hC d_pg_fits_82 ?_
      refine r_iload_n 1 hC d_pg_fits_83 rfl ?_
      refine tt_join 94 [(0, .ref (tt_ad G 1)), (1, .int a1), (2, .int (tt_A st 2 (Int32.toNatClampNeg a1))), (3, .int (if (tt_A st 2 (Int32.toNatClampNeg (tt_I st 1 2))) = 102 then 1 else 0 : Int32)), (4, .int ((a1 - (tt_I st 1 2)) - 1))] [.int (if (if (tt_A st 2 (Int32.toNatClampNeg (tt_I st 1 2))) = 102 then 1 else 0 : Int32) = 0 then 23 else 7 : Int32), .int (((a1 - (tt_I st 1 2)) - 1) + 1)] ?_ (fun kj_84 => ?_)
      ·
        refine r_icmp_ge (tgt := 108) hC d_pg_fits_94 (by decide) (fun c_94 => ?_) (fun c_94 => ?_)
        ·
          refine r_iconst (v := 0) hC d_pg_fits_108 (by decide) ?_
          exact r_iret_pi hC hR d_pg_fits_109 rfl
        ·
          refine r_iload_n 2 hC d_pg_fits_97 rfl ?_
          refine r_bipush (v := 48) hC d_pg_fits_98 (by decide) ?_
          refine r_bipush (v := 57) hC d_pg_fits_100 (by decide) ?_
          refine r_callSN (rest := []) (stk1 := [.int (tb_within (tt_A st 2 (Int32.toNatClampNeg a1)) 48 57)]) hC d_pg_fits_102 (c_tb_within G st (tt_A st 2 (Int32.toNatClampNeg a1)) 48 57) mw_tb_within ms_tb_within ml_pg_40 rfl rfl rfl (Nat.le_of_ble_eq_true rfl) rfl ?_
          refine r_if_ne (tgt := 110) hC d_pg_fits_105 (by decide) (fun c_105 => ?_) (fun c_105 => ?_)
          ·
            refine r_iload_n 3 hC d_pg_fits_110 rfl ?_
            refine tt_join 134 [(0, .ref (tt_ad G 1)), (1, .int a1), (2, .int (tt_A st 2 (Int32.toNatClampNeg a1))), (4, .int ((a1 - (tt_I st 1 2)) - 1))] [.int (if (if (tt_A st 2 (Int32.toNatClampNeg (tt_I st 1 2))) = 102 then 1 else 0 : Int32) = 0 then (if 4 ≤ ((a1 - (tt_I st 1 2)) - 1) then (((((a1 - (tt_I st 1 2)) - 1) - 4) / 2) - ((((a1 - (tt_I st 1 2)) - 1) - 4) / 2) / 3 * 3) else (-10001) : Int32) else (-10001) : Int32)] ?_ (fun kj_111 => ?_)
            ·
              refine r_istore [(5, .int (if (if (tt_A st 2 (Int32.toNatClampNeg (tt_I st 1 2))) = 102 then 1 else 0 : Int32) = 0 then (if 4 ≤ ((a1 - (tt_I st 1 2)) - 1) then (((((a1 - (tt_I st 1 2)) - 1) - 4) / 2) - ((((a1 - (tt_I st 1 2)) - 1) - 4) / 2) / 3 * 3) else (-10001) : Int32) else (-10001) : Int32)), (0, .ref (tt_ad G 1)), (1, .int a1), (2, .int (tt_A st 2 (Int32.toNatClampNeg a1))), (4, .int ((a1 - (tt_I st 1 2)) - 1))] hC d_pg_fits_134 (by decide) rfl ?_
              refine r_iload 0 hC d_pg_fits_136 rfl ?_
              refine tt_join 146 [(0, .ref (tt_ad G 1)), (1, .int a1), (2, .int (tt_A st 2 (Int32.toNatClampNeg a1))), (4, .int ((a1 - (tt_I st 1 2)) - 1)), (5, .int (if (if (tt_A st 2 (Int32.toNatClampNeg (tt_I st 1 2))) = 102 then 1 else 0 : Int32) = 0 then (if 4 ≤ ((a1 - (tt_I st 1 2)) - 1) then (((((a1 - (tt_I st 1 2)) - 1) - 4) / 2) - ((((a1 - (tt_I st 1 2)) - 1) - 4) / 2) / 3 * 3) else (-10001) : Int32) else (-10001) : Int32))] [.int (if (if (if (tt_A st 2 (Int32.toNatClampNeg (tt_I st 1 2))) = 102 then 1 else 0 : Int32) = 0 then (if 4 ≤ ((a1 - (tt_I st 1 2)) - 1) then (((((a1 - (tt_I st 1 2)) - 1) - 4) / 2) - ((((a1 - (tt_I st 1 2)) - 1) - 4) / 2) / 3 * 3) else (-10001) : Int32) else (-10001) : Int32) = 0 then 1 else 0 : Int32)] ?_ (fun kj_138 => ?_)
              ·
                refine r_istore [(6, .int (if (if (if (tt_A st 2 (Int32.toNatClampNeg (tt_I st 1 2))) = 102 then 1 else 0 : Int32) = 0 then (if 4 ≤ ((a1 - (tt_I st 1 2)) - 1) then (((((a1 - (tt_I st 1 2)) - 1) - 4) / 2) - ((((a1 - (tt_I st 1 2)) - 1) - 4) / 2) / 3 * 3) else (-10001) : Int32) else (-10001) : Int32) = 0 then 1 else 0 : Int32)), (0, .ref (tt_ad G 1)), (1, .int a1), (2, .int (tt_A st 2 (Int32.toNatClampNeg a1))), (4, .int ((a1 - (tt_I st 1 2)) - 1)), (5, .int (if (if (tt_A st 2 (Int32.toNatClampNeg (tt_I st 1 2))) = 102 then 1 else 0 : Int32) = 0 then (if 4 ≤ ((a1 - (tt_I st 1 2)) - 1) then (((((a1 - (tt_I st 1 2)) - 1) - 4) / 2) - ((((a1 - (tt_I st 1 2)) - 1) - 4) / 2) / 3 * 3) else (-10001) : Int32) else (-10001) : Int32))] hC d_pg_fits_146 (by decide) rfl ?_
                refine r_iload 5 hC d_pg_fits_148 rfl ?_
                refine r_iconst (v := 2) hC d_pg_fits_150 (by decide) ?_
                refine tt_join 161 [(0, .ref (tt_ad G 1)), (1, .int a1), (2, .int (tt_A st 2 (Int32.toNatClampNeg a1))), (4, .int ((a1 - (tt_I st 1 2)) - 1)), (6, .int (if (if (if (tt_A st 2 (Int32.toNatClampNeg (tt_I st 1 2))) = 102 then 1 else 0 : Int32) = 0 then (if 4 ≤ ((a1 - (tt_I st 1 2)) - 1) then (((((a1 - (tt_I st 1 2)) - 1) - 4) / 2) - ((((a1 - (tt_I st 1 2)) - 1) - 4) / 2) / 3 * 3) else (-10001) : Int32) else (-10001) : Int32) = 0 then 1 else 0 : Int32))] [.int (if (if (if (tt_A st 2 (Int32.toNatClampNeg (tt_I st 1 2))) = 102 then 1 else 0 : Int32) = 0 then (if 4 ≤ ((a1 - (tt_I st 1 2)) - 1) then (((((a1 - (tt_I st 1 2)) - 1) - 4) / 2) - ((((a1 - (tt_I st 1 2)) - 1) - 4) / 2) / 3 * 3) else (-10001) : Int32) else (-10001) : Int32) = 2 then 63 else 99 : Int32)] ?_ (fun kj_151 => ?_)
                ·
                  refine r_istore [(7, .int (if (if (if (tt_A st 2 (Int32.toNatClampNeg (tt_I st 1 2))) = 102 then 1 else 0 : Int32) = 0 then (if 4 ≤ ((a1 - (tt_I st 1 2)) - 1) then (((((a1 - (tt_I st 1 2)) - 1) - 4) / 2) - ((((a1 - (tt_I st 1 2)) - 1) - 4) / 2) / 3 * 3) else (-10001) : Int32) else (-10001) : Int32) = 2 then 63 else 99 : Int32)), (0, .ref (tt_ad G 1)), (1, .int a1), (2, .int (tt_A st 2 (Int32.toNatClampNeg a1))), (4, .int ((a1 - (tt_I st 1 2)) - 1)), (6, .int (if (if (if (tt_A st 2 (Int32.toNatClampNeg (tt_I st 1 2))) = 102 then 1 else 0 : Int32) = 0 then (if 4 ≤ ((a1 - (tt_I st 1 2)) - 1) then (((((a1 - (tt_I st 1 2)) - 1) - 4) / 2) - ((((a1 - (tt_I st 1 2)) - 1) - 4) / 2) / 3 * 3) else (-10001) : Int32) else (-10001) : Int32) = 0 then 1 else 0 : Int32))] hC d_pg_fits_161 (by decide) rfl ?_
                  refine r_iload_n 3 hC d_pg_fits_163 rfl ?_
                  refine r_bipush (v := 48) hC d_pg_fits_164 (by decide) ?_
                  refine r_isub hC d_pg_fits_166 ?_
                  refine r_istore [(8, .int ((tt_A st 2 (Int32.toNatClampNeg a1)) - 48)), (7, .int (if (if (if (tt_A st 2 (Int32.toNatClampNeg (tt_I st 1 2))) = 102 then 1 else 0 : Int32) = 0 then (if 4 ≤ ((a1 - (tt_I st 1 2)) - 1) then (((((a1 - (tt_I st 1 2)) - 1) - 4) / 2) - ((((a1 - (tt_I st 1 2)) - 1) - 4) / 2) / 3 * 3) else (-10001) : Int32) else (-10001) : Int32) = 2 then 63 else 99 : Int32)), (0, .ref (tt_ad G 1)), (1, .int a1), (2, .int (tt_A st 2 (Int32.toNatClampNeg a1))), (4, .int ((a1 - (tt_I st 1 2)) - 1)), (6, .int (if (if (if (tt_A st 2 (Int32.toNatClampNeg (tt_I st 1 2))) = 102 then 1 else 0 : Int32) = 0 then (if 4 ≤ ((a1 - (tt_I st 1 2)) - 1) then (((((a1 - (tt_I st 1 2)) - 1) - 4) / 2) - ((((a1 - (tt_I st 1 2)) - 1) - 4) / 2) / 3 * 3) else (-10001) : Int32) else (-10001) : Int32) = 0 then 1 else 0 : Int32))] hC d_pg_fits_167 (by decide) rfl ?_
                  refine r_iload 5 hC d_pg_fits_169 rfl ?_
                  refine r_iconst (v := 2) hC d_pg_fits_171 (by decide) ?_
                  refine r_irem hC d_pg_fits_172 (by decide) ?_
                  refine r_if_ne (tgt := 192) hC d_pg_fits_173 (by decide) (fun c_173 => ?_) (fun c_173 => ?_)
                  ·
                    refine r_bipush (v := 10) hC d_pg_fits_192 (by decide) ?_
                    refine r_aload_n 2 hC d_pg_fits_194 rfl ?_
                    refine r_getR (r := 2) hC d_pg_fits_195 fl_pg_9 rfl rfl rfl ?_
                    refine r_iload_n 3 hC d_pg_fits_198 rfl ?_
                    refine r_iconst (v := 1) hC d_pg_fits_199 (by decide) ?_
                    refine r_isub hC d_pg_fits_200 ?_
                    refine r_iald (n := 96) hC d_pg_fits_201 rfl (by decide) rfl rfl (pg_fit2 hp hs c_12) ?_
                    refine r_bipush (v := 48) hC d_pg_fits_202 (by decide) ?_
                    refine r_isub hC d_pg_fits_204 ?_
                    refine r_imul hC d_pg_fits_205 ?_
                    refine r_iload 0 hC d_pg_fits_206 rfl ?_
                    refine r_iadd hC d_pg_fits_208 ?_
                    refine r_iload 6 hC d_pg_fits_209 rfl ?_
                    refine r_iload 1 hC d_pg_fits_211 rfl ?_
                    refine r_callSN (rest := []) (stk1 := [.int (tb_within ((10 * ((tt_A st 2 (Int32.toNatClampNeg (a1 - 1))) - 48)) + ((tt_A st 2 (Int32.toNatClampNeg a1)) - 48)) (if (if (if (tt_A st 2 (Int32.toNatClampNeg (tt_I st 1 2))) = 102 then 1 else 0 : Int32) = 0 then (if 4 ≤ ((a1 - (tt_I st 1 2)) - 1) then (((((a1 - (tt_I st 1 2)) - 1) - 4) / 2) - ((((a1 - (tt_I st 1 2)) - 1) - 4) / 2) / 3 * 3) else (-10001) : Int32) else (-10001) : Int32) = 0 then 1 else 0 : Int32) (if (if (if (tt_A st 2 (Int32.toNatClampNeg (tt_I st 1 2))) = 102 then 1 else 0 : Int32) = 0 then (if 4 ≤ ((a1 - (tt_I st 1 2)) - 1) then (((((a1 - (tt_I st 1 2)) - 1) - 4) / 2) - ((((a1 - (tt_I st 1 2)) - 1) - 4) / 2) / 3 * 3) else (-10001) : Int32) else (-10001) : Int32) = 2 then 63 else 99 : Int32))]) hC d_pg_fits_213 (c_tb_within G st ((10 * ((tt_A st 2 (Int32.toNatClampNeg (a1 - 1))) - 48)) + ((tt_A st 2 (Int32.toNatClampNeg a1)) - 48)) (if (if (if (tt_A st 2 (Int32.toNatClampNeg (tt_I st 1 2))) = 102 then 1 else 0 : Int32) = 0 then (if 4 ≤ ((a1 - (tt_I st 1 2)) - 1) then (((((a1 - (tt_I st 1 2)) - 1) - 4) / 2) - ((((a1 - (tt_I st 1 2)) - 1) - 4) / 2) / 3 * 3) else (-10001) : Int32) else (-10001) : Int32) = 0 then 1 else 0 : Int32) (if (if (if (tt_A st 2 (Int32.toNatClampNeg (tt_I st 1 2))) = 102 then 1 else 0 : Int32) = 0 then (if 4 ≤ ((a1 - (tt_I st 1 2)) - 1) then (((((a1 - (tt_I st 1 2)) - 1) - 4) / 2) - ((((a1 - (tt_I st 1 2)) - 1) - 4) / 2) / 3 * 3) else (-10001) : Int32) else (-10001) : Int32) = 2 then 63 else 99 : Int32)) mw_tb_within ms_tb_within ml_pg_40 rfl rfl rfl (Nat.le_of_ble_eq_true rfl) rfl ?_
                    exact r_iret_pi hC hR d_pg_fits_216 (tt_nb (tb_within_b _ _ _))
                  ·
                    refine r_bipush (v := 10) hC d_pg_fits_176 (by decide) ?_
                    refine r_iload 0 hC d_pg_fits_178 rfl ?_
                    refine r_imul hC d_pg_fits_180 ?_
                    refine r_iload 1 hC d_pg_fits_181 rfl ?_
                    refine r_icmp_gt (tgt := 190) hC d_pg_fits_183 (by decide) (fun c_183 => ?_) (fun c_183 => ?_)
                    ·
                      refine r_iconst (v := 0) hC d_pg_fits_190 (by decide) ?_
                      exact r_iret_pi hC hR d_pg_fits_191 rfl
                    ·
                      refine r_iconst (v := 1) hC d_pg_fits_186 (by decide) ?_
                      refine r_goto (tgt := 191) hC d_pg_fits_187 (by decide) ?_
                      exact r_iret_pi hC hR d_pg_fits_191 rfl
                ·
                  refine j_icmp_ne (tgt := 159) hC d_pg_fits_151 (by decide) (fun c_151 => ?_) (fun c_151 => ?_)
                  ·
                    refine r_bipush (v := 99) hC d_pg_fits_159 (by decide) ?_
                    exact tt_cast [1, 2, 3, 4, 0] rfl (by simp only [if_neg c_151]) kj_151
                  ·
                    refine r_bipush (v := 63) hC d_pg_fits_154 (by decide) ?_
                    refine r_goto (tgt := 161) hC d_pg_fits_156 (by decide) ?_
                    exact tt_cast [1, 2, 3, 4, 0] rfl (by simp only [if_pos c_151]) kj_151
              ·
                refine j_if_ne (tgt := 145) hC d_pg_fits_138 (by decide) (fun c_138 => ?_) (fun c_138 => ?_)
                ·
                  refine r_iconst (v := 0) hC d_pg_fits_145 (by decide) ?_
                  exact tt_cast [1, 2, 3, 4, 0] rfl (by simp only [if_neg c_138]) kj_138
                ·
                  refine r_iconst (v := 1) hC d_pg_fits_141 (by decide) ?_
                  refine r_goto (tgt := 146) hC d_pg_fits_142 (by decide) ?_
                  exact tt_cast [1, 2, 3, 4, 0] rfl (by simp only [if_pos c_138]) kj_138
            ·
              refine j_if_ne (tgt := 120) hC d_pg_fits_111 (by decide) (fun c_111 => ?_) (fun c_111 => ?_)
              ·
                refine r_sipush (v := (-10001)) hC d_pg_fits_120 (by decide) ?_
                refine r_goto (tgt := 134) hC d_pg_fits_123 (by decide) ?_
                exact tt_cast [0, 1, 2, 4] rfl (by simp only [if_neg c_111]) kj_111
              ·
                refine r_iload 4 hC d_pg_fits_114 rfl ?_
                refine r_iconst (v := 4) hC d_pg_fits_116 (by decide) ?_
                refine tt_join 134 [(0, .ref (tt_ad G 1)), (1, .int a1), (2, .int (tt_A st 2 (Int32.toNatClampNeg a1))), (4, .int ((a1 - (tt_I st 1 2)) - 1))] [.int (if 4 ≤ ((a1 - (tt_I st 1 2)) - 1) then (((((a1 - (tt_I st 1 2)) - 1) - 4) / 2) - ((((a1 - (tt_I st 1 2)) - 1) - 4) / 2) / 3 * 3) else (-10001) : Int32)] ?_ (fun kj_117 => ?_)
                ·
                  exact tt_cast [0, 1, 2, 3] rfl (by simp only [if_pos c_111]) kj_111
                ·
                  refine j_icmp_ge (tgt := 126) hC d_pg_fits_117 (by decide) (fun c_117 => ?_) (fun c_117 => ?_)
                  ·
                    refine r_iload 4 hC d_pg_fits_126 rfl ?_
                    refine r_iconst (v := 4) hC d_pg_fits_128 (by decide) ?_
                    refine r_isub hC d_pg_fits_129 ?_
                    refine r_iconst (v := 2) hC d_pg_fits_130 (by decide) ?_
                    refine r_idiv hC d_pg_fits_131 (by decide) ?_
                    refine r_iconst (v := 3) hC d_pg_fits_132 (by decide) ?_
                    refine r_irem hC d_pg_fits_133 (by decide) ?_
                    exact tt_cast [0, 1, 2, 4] rfl (by simp only [if_pos c_117]) kj_117
                  ·
                    refine r_sipush (v := (-10001)) hC d_pg_fits_120 (by decide) ?_
                    refine r_goto (tgt := 134) hC d_pg_fits_123 (by decide) ?_
                    exact tt_cast [0, 1, 2, 4] rfl (by simp only [if_neg c_117]) kj_117
          ·
            refine r_iconst (v := 0) hC d_pg_fits_108 (by decide) ?_
            exact r_iret_pi hC hR d_pg_fits_109 rfl
      ·
        refine j_if_eq (tgt := 92) hC d_pg_fits_84 (by decide) (fun c_84 => ?_) (fun c_84 => ?_)
        ·
          refine r_bipush (v := 23) hC d_pg_fits_92 (by decide) ?_
          exact tt_cast [2, 3, 4, 1, 0] rfl (by simp only [if_pos c_84]) kj_84
        ·
          refine r_bipush (v := 7) hC d_pg_fits_87 (by decide) ?_
          refine r_goto (tgt := 94) hC d_pg_fits_89 (by decide) ?_
          exact tt_cast [2, 3, 4, 1, 0] rfl (by simp only [if_neg c_84]) kj_84
    ·
      refine j_icmp_ne (tgt := 67) hC d_pg_fits_60 (by decide) (fun c_60 => ?_) (fun c_60 => ?_)
      ·
        refine r_iconst (v := 0) hC d_pg_fits_67 (by decide) ?_
        exact tt_cast [1, 2, 0] rfl (by simp only [if_neg c_60]) kj_60
      ·
        refine r_iconst (v := 1) hC d_pg_fits_63 (by decide) ?_
        refine r_goto (tgt := 68) hC d_pg_fits_64 (by decide) ?_
        exact tt_cast [1, 2, 0] rfl (by simp only [if_pos c_60]) kj_60
  ·
    refine r_iload_n 0 hC d_pg_fits_15 rfl ?_
    refine r_bipush (v := 102) hC d_pg_fits_16 (by decide) ?_
    refine r_icmp_ne (tgt := 36) hC d_pg_fits_18 (by decide) (fun c_18 => ?_) (fun c_18 => ?_)
    ·
      refine r_iload_n 0 hC d_pg_fits_36 rfl ?_
      refine r_callS (rest := []) (stk1 := [.int (pg_kindOf (tt_A st 2 (Int32.toNatClampNeg a1)))]) hC d_pg_fits_37 (c_pg_kindOf G st (tt_A st 2 (Int32.toNatClampNeg a1))) mw_pg_kindOf ms_pg_kindOf ml_pg_36 rfl rfl rfl (Nat.le_of_ble_eq_true rfl) rfl ?_
      refine r_if_lt (tgt := 47) hC d_pg_fits_40 (by decide) (fun c_40 => ?_) (fun c_40 => ?_)
      ·
        refine r_iconst (v := 0) hC d_pg_fits_47 (by decide) ?_
        exact r_iret_pi hC hR d_pg_fits_48 rfl
      ·
        refine r_iconst (v := 1) hC d_pg_fits_43 (by decide) ?_
        refine r_goto (tgt := 48) hC d_pg_fits_44 (by decide) ?_
        exact r_iret_pi hC hR d_pg_fits_48 rfl
    ·
      refine r_aload_n 1 hC d_pg_fits_21 rfl ?_
      refine r_getI hC d_pg_fits_22 fl_pg_19 rfl rfl ?_
      refine r_if_le (tgt := 32) hC d_pg_fits_25 (by decide) (fun c_25 => ?_) (fun c_25 => ?_)
      ·
        refine r_iconst (v := 0) hC d_pg_fits_32 (by decide) ?_
        refine r_goto (tgt := 48) hC d_pg_fits_33 (by decide) ?_
        exact r_iret_pi hC hR d_pg_fits_48 rfl
      ·
        refine r_iconst (v := 1) hC d_pg_fits_28 (by decide) ?_
        refine r_goto (tgt := 48) hC d_pg_fits_29 (by decide) ?_
        exact r_iret_pi hC hR d_pg_fits_48 rfl
/-! TideTable$Page.firstWrong()I -/
def pg_firstWrong_l12 (m : Nat) : Nat → Nat → tt_St → Int32 × tt_St
  | 0, j, st => ((tt_I st 1 1), st)
  | n + 1, j, st => (if (tt_A st 2 (Int32.toNatClampNeg (nI j))) = 44 then (if 4 ≤ ((tt_I st 1 3) + 1) then (if (pg_fits st (nI j)) = 0 then ((nI j), st) else (pg_firstWrong_l12 m n (j + 1) st)) else (if (pg_canEndAhead st (nI j)) = 0 then (if (pg_fits st (nI j)) = 0 then ((nI j), st) else (pg_firstWrong_l12 m n (j + 1) st)) else (pg_firstWrong_l12 m n (j + 1) (tt_pI (tt_pI st 1 2 ((nI j) + 1)) 1 3 ((tt_I (tt_pI st 1 2 ((nI j) + 1)) 1 3) + 1))))) else (if (pg_fits st (nI j)) = 0 then ((nI j), st) else (pg_firstWrong_l12 m n (j + 1) st)))
set_option maxHeartbeats 4000000 in
set_option maxRecDepth 20000 in
theorem l_pg_firstWrong_12 {G : tt_G} {κ : tt_X (Int32 × tt_St)} (hC : tt_Cx G κ prog_2_method_2_code "TideTable$Page" 2 6 139) (m : Nat)  (hR : tt_Rt G κ (some .int) (fun r => (some (.int r.1), r.2))) (hm : m ≤ 96) : ∀ (n j : Nat) (st : tt_St), j + n = m → tb_ok st → tt_I st 1 1 = nI m → 0 ≤ (tt_I st 1 2).toInt ∧ (tt_I st 1 2).toInt ≤ (j : Int) → tt_V G κ (pg_firstWrong_l12 m n j st) st 12 [(0, .ref (tt_ad G 1)), (1, .int (nI j))] [] := by
  intro n
  induction n with
  | zero =>
    intro j st hj hI hb hs
    rw [pg_firstWrong_l12]
    refine r_iload_n 1 hC d_pg_firstWrong_12 rfl ?_
    refine r_aload_n 0 hC d_pg_firstWrong_13 rfl ?_
    refine r_getI hC d_pg_firstWrong_14 fl_pg_22 rfl rfl ?_
    refine t_icmp_ge (tgt := 85) hC d_pg_firstWrong_17 (by decide) (by rw [hb]; exact nI_le (by omega) (by omega)) ?_
    refine r_aload_n 0 hC d_pg_firstWrong_85 rfl ?_
    refine r_getI hC d_pg_firstWrong_86 fl_pg_22 rfl rfl ?_
    exact r_iret_si hC hR d_pg_firstWrong_89 rfl
  | succ n ih =>
    intro j st hj hI hb hs
    rw [pg_firstWrong_l12]
    refine r_iload_n 1 hC d_pg_firstWrong_12 rfl ?_
    refine r_aload_n 0 hC d_pg_firstWrong_13 rfl ?_
    refine r_getI hC d_pg_firstWrong_14 fl_pg_22 rfl rfl ?_
    refine f_icmp_ge (tgt := 85) hC d_pg_firstWrong_17 (by decide) (by rw [hb]; exact nI_ge (a := j) (b := m) (by omega) (by omega)) ?_
    refine r_aload_n 0 hC d_pg_firstWrong_20 rfl ?_
    refine r_getR (r := 2) hC d_pg_firstWrong_21 fl_pg_9 rfl rfl rfl ?_
    refine r_iload_n 1 hC d_pg_firstWrong_24 rfl ?_
    refine r_iald (n := 96) hC d_pg_firstWrong_25 rfl (by decide) rfl rfl (vp_in_nI (by omega) (by omega)) ?_
    refine r_bipush (v := 44) hC d_pg_firstWrong_26 (by decide) ?_
    refine r_icmp_ne (tgt := 69) hC d_pg_firstWrong_28 (by decide) (fun c_28 => ?_) (fun c_28 => ?_)
    ·
      refine r_aload_n 0 hC d_pg_firstWrong_69 rfl ?_
      refine r_iload_n 1 hC d_pg_firstWrong_70 rfl ?_
      refine r_callV (o := 1) (rest := []) (stk1 := [.int (pg_fits st (nI j))]) hC d_pg_firstWrong_71 (c_pg_fits G st (nI j) (vp_in_nI (by omega) (by omega)) (by rw [nI_toInt (by omega)]; omega)) mw_pg_fits mi_pg_fits mz_pg_fits ml_pg_29 rfl rfl rfl rfl rfl (Nat.le_of_ble_eq_true rfl) rfl ?_
      refine r_if_ne (tgt := 79) hC d_pg_firstWrong_74 (by decide) (fun c_74 => ?_) (fun c_74 => ?_)
      ·
        refine r_iinc 1 (nI (j + 1)) [(1, .int (nI (j + 1))), (0, .ref (tt_ad G 1))] hC d_pg_firstWrong_79 rfl (by rw [nI_succ]; rfl) (by decide) rfl ?_
        refine r_goto (tgt := 12) hC d_pg_firstWrong_82 (by decide) ?_
        exact tt_cast [1, 0] rfl rfl (ih (j + 1) st (by omega) (by first | exact hI | exact tb_ok_pI (tb_ok_pI hI (by decide) (by decide)) (by decide) (by decide)) hb (by first | omega | exact pg_hsA (by omega)))
      ·
        refine r_iload_n 1 hC d_pg_firstWrong_77 rfl ?_
        exact r_iret_si hC hR d_pg_firstWrong_78 rfl
    ·
      refine r_aload_n 0 hC d_pg_firstWrong_31 rfl ?_
      refine r_getI hC d_pg_firstWrong_32 fl_pg_19 rfl rfl ?_
      refine r_iconst (v := 1) hC d_pg_firstWrong_35 (by decide) ?_
      refine r_iadd hC d_pg_firstWrong_36 ?_
      refine r_iconst (v := 4) hC d_pg_firstWrong_37 (by decide) ?_
      refine r_icmp_ge (tgt := 69) hC d_pg_firstWrong_38 (by decide) (fun c_38 => ?_) (fun c_38 => ?_)
      ·
        refine r_aload_n 0 hC d_pg_firstWrong_69 rfl ?_
        refine r_iload_n 1 hC d_pg_firstWrong_70 rfl ?_
        refine r_callV (o := 1) (rest := []) (stk1 := [.int (pg_fits st (nI j))]) hC d_pg_firstWrong_71 (c_pg_fits G st (nI j) (vp_in_nI (by omega) (by omega)) (by rw [nI_toInt (by omega)]; omega)) mw_pg_fits mi_pg_fits mz_pg_fits ml_pg_29 rfl rfl rfl rfl rfl (Nat.le_of_ble_eq_true rfl) rfl ?_
        refine r_if_ne (tgt := 79) hC d_pg_firstWrong_74 (by decide) (fun c_74 => ?_) (fun c_74 => ?_)
        ·
          refine r_iinc 1 (nI (j + 1)) [(1, .int (nI (j + 1))), (0, .ref (tt_ad G 1))] hC d_pg_firstWrong_79 rfl (by rw [nI_succ]; rfl) (by decide) rfl ?_
          refine r_goto (tgt := 12) hC d_pg_firstWrong_82 (by decide) ?_
          exact tt_cast [1, 0] rfl rfl (ih (j + 1) st (by omega) (by first | exact hI | exact tb_ok_pI (tb_ok_pI hI (by decide) (by decide)) (by decide) (by decide)) hb (by first | omega | exact pg_hsA (by omega)))
        ·
          refine r_iload_n 1 hC d_pg_firstWrong_77 rfl ?_
          exact r_iret_si hC hR d_pg_firstWrong_78 rfl
      ·
        refine r_aload_n 0 hC d_pg_firstWrong_41 rfl ?_
        refine r_iload_n 1 hC d_pg_firstWrong_42 rfl ?_
        refine r_callV (o := 1) (rest := []) (stk1 := [.int (pg_canEndAhead st (nI j))]) hC d_pg_firstWrong_43 (c_pg_canEndAhead G st (nI j) (by rw [nI_toInt (by omega)]; omega) (by omega)) mw_pg_canEndAhead mi_pg_canEndAhead mz_pg_canEndAhead ml_pg_25 rfl rfl rfl rfl rfl (Nat.le_of_ble_eq_true rfl) rfl ?_
        refine r_if_eq (tgt := 69) hC d_pg_firstWrong_46 (by decide) (fun c_46 => ?_) (fun c_46 => ?_)
        ·
          refine r_aload_n 0 hC d_pg_firstWrong_69 rfl ?_
          refine r_iload_n 1 hC d_pg_firstWrong_70 rfl ?_
          refine r_callV (o := 1) (rest := []) (stk1 := [.int (pg_fits st (nI j))]) hC d_pg_firstWrong_71 (c_pg_fits G st (nI j) (vp_in_nI (by omega) (by omega)) (by rw [nI_toInt (by omega)]; omega)) mw_pg_fits mi_pg_fits mz_pg_fits ml_pg_29 rfl rfl rfl rfl rfl (Nat.le_of_ble_eq_true rfl) rfl ?_
          refine r_if_ne (tgt := 79) hC d_pg_firstWrong_74 (by decide) (fun c_74 => ?_) (fun c_74 => ?_)
          ·
            refine r_iinc 1 (nI (j + 1)) [(1, .int (nI (j + 1))), (0, .ref (tt_ad G 1))] hC d_pg_firstWrong_79 rfl (by rw [nI_succ]; rfl) (by decide) rfl ?_
            refine r_goto (tgt := 12) hC d_pg_firstWrong_82 (by decide) ?_
            exact tt_cast [1, 0] rfl rfl (ih (j + 1) st (by omega) (by first | exact hI | exact tb_ok_pI (tb_ok_pI hI (by decide) (by decide)) (by decide) (by decide)) hb (by first | omega | exact pg_hsA (by omega)))
          ·
            refine r_iload_n 1 hC d_pg_firstWrong_77 rfl ?_
            exact r_iret_si hC hR d_pg_firstWrong_78 rfl
        ·
          refine r_aload_n 0 hC d_pg_firstWrong_49 rfl ?_
          refine r_iload_n 1 hC d_pg_firstWrong_50 rfl ?_
          refine r_iconst (v := 1) hC d_pg_firstWrong_51 (by decide) ?_
          refine r_iadd hC d_pg_firstWrong_52 ?_
          refine r_putI hC d_pg_firstWrong_53 fl_pg_15 fp_0_2 rfl rfl rfl rfl ?_
          refine r_aload_n 0 hC d_pg_firstWrong_56 rfl ?_
          refine r_dup hC d_pg_firstWrong_57 rfl ?_
          refine r_getI hC d_pg_firstWrong_58 fl_pg_19 rfl rfl ?_
          refine r_iconst (v := 1) hC d_pg_firstWrong_61 (by decide) ?_
          refine r_iadd hC d_pg_firstWrong_62 ?_
          refine r_putI hC d_pg_firstWrong_63 fl_pg_19 fp_0_3 rfl rfl rfl rfl ?_
          refine r_goto (tgt := 79) hC d_pg_firstWrong_66 (by decide) ?_
          refine r_iinc 1 (nI (j + 1)) [(1, .int (nI (j + 1))), (0, .ref (tt_ad G 1))] hC d_pg_firstWrong_79 rfl (by rw [nI_succ]; rfl) (by decide) rfl ?_
          refine r_goto (tgt := 12) hC d_pg_firstWrong_82 (by decide) ?_
          exact tt_cast [1, 0] rfl rfl (ih (j + 1) (tt_pI (tt_pI st 1 2 ((nI j) + 1)) 1 3 ((tt_I (tt_pI st 1 2 ((nI j) + 1)) 1 3) + 1)) (by omega) (by first | exact hI | exact tb_ok_pI (tb_ok_pI hI (by decide) (by decide)) (by decide) (by decide)) hb (by first | omega | exact pg_hsA (by omega)))
def pg_firstWrong (st : tt_St) : Int32 × tt_St := (pg_firstWrong_l12 (Int32.toNatClampNeg (tt_I st 1 1)) (Int32.toNatClampNeg (tt_I st 1 1)) 0 (tt_pI (tt_pI st 1 2 0) 1 3 0))
set_option maxHeartbeats 4000000 in
set_option maxRecDepth 20000 in
theorem c_pg_firstWrong (G : tt_G) (st : tt_St)  (hI : tb_ok st) : tt_C y_pg_firstWrong prog_2_method_2_code 2 (some .int) 6 139 G [.ref (tt_ad G 1)] st (some (.int (pg_firstWrong st).1)) (pg_firstWrong st).2 := by
  refine tt_enter_si (T := (pg_firstWrong st)) (by decide +kernel) (Nat.le_of_ble_eq_true rfl) (fun κ hC hR => ?_)
  rw [pg_firstWrong]
  refine r_aload_n 0 hC d_pg_firstWrong_0 rfl ?_
  refine r_iconst (v := 0) hC d_pg_firstWrong_1 (by decide) ?_
  refine r_putI hC d_pg_firstWrong_2 fl_pg_15 fp_0_2 rfl rfl rfl rfl ?_
  refine r_aload_n 0 hC d_pg_firstWrong_5 rfl ?_
  refine r_iconst (v := 0) hC d_pg_firstWrong_6 (by decide) ?_
  refine r_putI hC d_pg_firstWrong_7 fl_pg_19 fp_0_3 rfl rfl rfl rfl ?_
  refine r_iconst (v := 0) hC d_pg_firstWrong_10 (by decide) ?_
  refine r_istore_n [(1, .int 0), (0, .ref (tt_ad G 1))] hC d_pg_firstWrong_11 rfl (by decide) rfl ?_
  exact tt_cast [1, 0] rfl rfl (l_pg_firstWrong_12 hC (Int32.toNatClampNeg (tt_I st 1 1)) hR (tt_cle hI.2.2.2) (Int32.toNatClampNeg (tt_I st 1 1)) 0 (tt_pI (tt_pI st 1 2 0) 1 3 0) (by omega) (tb_ok_pI (tb_ok_pI hI (by decide) (by decide)) (by decide) (by decide)) (tt_nIc hI.2.2.1).symm (show 0 ≤ (0 : Int32).toInt ∧ (0 : Int32).toInt ≤ ((0 : Nat) : Int) from by decide))

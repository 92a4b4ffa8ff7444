/-! TideTable.mean(II)I -/
def tb_mean (st : tt_St) (a1 : Int32) (a2 : Int32) : Int32 × tt_St := (if (se_knows st 3 a1) = 0 then ((-10101), st) else (if (tb_within a2 0 99) = 0 then ((-10102), st) else ((tt_I st (9 + Int32.toNatClampNeg a1) 1), tt_pI st (9 + Int32.toNatClampNeg a1) 1 a2)))
set_option maxHeartbeats 4000000 in
set_option maxRecDepth 20000 in
theorem c_tb_mean (G : tt_G) (st : tt_St) (a1 : Int32) (a2 : Int32) (hI : tb_ok st) : tt_C y_tb_mean prog_1_method_19_code 4 (some .int) 1 22 G [.ref (tt_ad G 0), .int a1, .int a2] st (some (.int (tb_mean st a1 a2).1)) (tb_mean st a1 a2).2 := by
  refine tt_enter_si (T := (tb_mean st a1 a2)) (by decide +kernel) (Nat.le_of_ble_eq_true rfl) (fun κ hC hR => ?_)
  rw [tb_mean]
  refine r_aload_n 0 hC d_tb_mean_0 rfl ?_
  refine r_getR (r := 3) hC d_tb_mean_1 fl_tb_19 rfl rfl rfl ?_
  refine r_iload_n 1 hC d_tb_mean_4 rfl ?_
  refine r_callV (o := 3) (rest := []) (stk1 := [.int (se_knows st 3 a1)]) hC d_tb_mean_5 (c_se_knows G st 3 a1 rfl) mw_se_knows mi_se_knows mz_se_knows ml_tb_64 rfl rfl rfl rfl rfl (Nat.le_of_ble_eq_true rfl) rfl ?_
  refine r_if_ne (tgt := 15) hC d_tb_mean_8 (by decide) (fun c_8 => ?_) (fun c_8 => ?_)
  ·
    refine r_iload_n 2 hC d_tb_mean_15 rfl ?_
    refine r_iconst (v := 0) hC d_tb_mean_16 (by decide) ?_
    refine r_bipush (v := 99) hC d_tb_mean_17 (by decide) ?_
    refine r_callS (rest := []) (stk1 := [.int (tb_within a2 0 99)]) hC d_tb_mean_19 (c_tb_within G st a2 0 99) mw_tb_within ms_tb_within ml_tb_33 rfl rfl rfl (Nat.le_of_ble_eq_true rfl) rfl ?_
    refine r_if_ne (tgt := 29) hC d_tb_mean_22 (by decide) (fun c_22 => ?_) (fun c_22 => ?_)
    ·
      refine r_aload_n 0 hC d_tb_mean_29 rfl ?_
      refine r_getR (r := 3) hC d_tb_mean_30 fl_tb_19 rfl rfl rfl ?_
      refine r_getR (r := 5) hC d_tb_mean_33 fl_tb_68 rfl rfl rfl ?_
      refine r_iload_n 1 hC d_tb_mean_36 rfl ?_
      have hb_37 : vp_in a1 4 := (se_knows_in hI rfl c_8)
      refine r_aald (r := (9 + Int32.toNatClampNeg a1)) (C := "TideTable$Port") hC d_tb_mean_37 rfl (by decide) rfl (by decide) (fun _ => rfl) rfl hb_37 rfl ?_
      refine r_getI hC d_tb_mean_38 fl_tb_77 rfl (tt_ci_5 hb_37) ?_
      refine r_istore_n [(3, .int (tt_I st (9 + Int32.toNatClampNeg a1) 1)), (0, .ref (tt_ad G 0)), (1, .int a1), (2, .int a2)] hC d_tb_mean_41 rfl (by decide) rfl ?_
      refine r_aload_n 1 hC d_tb_mean_42 rfl ?_
      refine r_getR (r := 3) hC d_tb_mean_43 fl_tb_19 rfl rfl rfl ?_
      refine r_getR (r := 5) hC d_tb_mean_46 fl_tb_68 rfl rfl rfl ?_
      refine r_iload_n 2 hC d_tb_mean_49 rfl ?_
      have hb_50 : vp_in a1 4 := (se_knows_in hI rfl c_8)
      refine r_aald (r := (9 + Int32.toNatClampNeg a1)) (C := "TideTable$Port") hC d_tb_mean_50 rfl (by decide) rfl (by decide) (fun _ => rfl) rfl hb_50 rfl ?_
      refine r_iload_n 3 hC d_tb_mean_51 rfl ?_
      refine r_putI hC d_tb_mean_52 fl_tb_77 fp_1_1 rfl (tt_ci_5 hb_50) rfl rfl ?_
      refine r_iload_n 0 hC d_tb_mean_55 rfl ?_
      exact r_iret_si hC hR d_tb_mean_56 rfl
    ·
      refine r_sipush (v := (-10102)) hC d_tb_mean_25 (by decide) ?_
      exact r_iret_si hC hR d_tb_mean_28 rfl
  ·
    refine r_sipush (v := (-10101)) hC d_tb_mean_11 (by decide) ?_
    exact r_iret_si hC hR d_tb_mean_14 rfl
/-! TideTable.mark(II)I -/
def tb_mark (st : tt_St) (a1 : Int32) (a2 : Int32) : Int32 × tt_St := (if (se_knows st 3 a1) = 0 then ((-10101), st) else (if (tb_within a2 0 99) = 0 then ((-10102), st) else ((tt_I st (9 + Int32.toNatClampNeg a1) 2), tt_pI st (9 + Int32.toNatClampNeg a1) 2 a2)))
set_option maxHeartbeats 4000000 in
set_option maxRecDepth 20000 in
theorem c_tb_mark (G : tt_G) (st : tt_St) (a1 : Int32) (a2 : Int32) (hI : tb_ok st) : tt_C y_tb_mark prog_1_method_20_code 4 (some .int) 1 22 G [.ref (tt_ad G 0), .int a1, .int a2] st (some (.int (tb_mark st a1 a2).1)) (tb_mark st a1 a2).2 := by
  refine tt_enter_si (T := (tb_mark st a1 a2)) (by decide +kernel) (Nat.le_of_ble_eq_true rfl) (fun κ hC hR => ?_)
  rw [tb_mark]
  refine r_aload_n 0 hC d_tb_mark_0 rfl ?_
  refine r_getR (r := 3) hC d_tb_mark_1 fl_tb_19 rfl rfl rfl ?_
  refine r_iload_n 1 hC d_tb_mark_4 rfl ?_
  refine r_callV (o := 3) (rest := []) (stk1 := [.int (se_knows st 3 a1)]) hC d_tb_mark_5 (c_se_knows G st 3 a1 rfl) mw_se_knows mi_se_knows mz_se_knows ml_tb_64 rfl rfl rfl rfl rfl (Nat.le_of_ble_eq_true rfl) rfl ?_
  refine r_if_ne (tgt := 15) hC d_tb_mark_8 (by decide) (fun c_8 => ?_) (fun c_8 => ?_)
  ·
    refine r_iload_n 2 hC d_tb_mark_15 rfl ?_
    refine r_iconst (v := 0) hC d_tb_mark_16 (by decide) ?_
    refine r_bipush (v := 99) hC d_tb_mark_17 (by decide) ?_
    refine r_callS (rest := []) (stk1 := [.int (tb_within a2 0 99)]) hC d_tb_mark_19 (c_tb_within G st a2 0 99) mw_tb_within ms_tb_within ml_tb_33 rfl rfl rfl (Nat.le_of_ble_eq_true rfl) rfl ?_
    refine r_if_ne (tgt := 29) hC d_tb_mark_22 (by decide) (fun c_22 => ?_) (fun c_22 => ?_)
    ·
      refine r_aload_n 0 hC d_tb_mark_29 rfl ?_
      refine r_getR (r := 3) hC d_tb_mark_30 fl_tb_19 rfl rfl rfl ?_
      refine r_getR (r := 5) hC d_tb_mark_33 fl_tb_68 rfl rfl rfl ?_
      refine r_iload_n 1 hC d_tb_mark_36 rfl ?_
      have hb_37 : vp_in a1 4 := (se_knows_in hI rfl c_8)
      refine r_aald (r := (9 + Int32.toNatClampNeg a1)) (C := "TideTable$Port") hC d_tb_mark_37 rfl (by decide) rfl (by decide) (fun _ => rfl) rfl hb_37 rfl ?_
      refine r_getI hC d_tb_mark_38 fl_tb_80 rfl (tt_ci_5 hb_37) ?_
      refine r_istore_n [(3, .int (tt_I st (9 + Int32.toNatClampNeg a1) 2)), (0, .ref (tt_ad G 0)), (1, .int a1), (2, .int a2)] hC d_tb_mark_41 rfl (by decide) rfl ?_
      refine r_aload_n 1 hC d_tb_mark_42 rfl ?_
      refine r_getR (r := 3) hC d_tb_mark_43 fl_tb_19 rfl rfl rfl ?_
      refine r_getR (r := 5) hC d_tb_mark_46 fl_tb_68 rfl rfl rfl ?_
      refine r_iload_n 2 hC d_tb_mark_49 rfl ?_
      have hb_50 : vp_in a1 4 := (se_knows_in hI rfl c_8)
      refine r_aald (r := (9 + Int32.toNatClampNeg a1)) (C := "TideTable$Port") hC d_tb_mark_50 rfl (by decide) rfl (by decide) (fun _ => rfl) rfl hb_50 rfl ?_
      refine r_iload_n 3 hC d_tb_mark_51 rfl ?_
      refine r_putI hC d_tb_mark_52 fl_tb_80 fp_1_2 rfl (tt_ci_5 hb_50) rfl rfl ?_
      refine r_iload_n 0 hC d_tb_mark_55 rfl ?_
      exact r_iret_si hC hR d_tb_mark_56 rfl
    ·
      refine r_sipush (v := (-10102)) hC d_tb_mark_25 (by decide) ?_
      exact r_iret_si hC hR d_tb_mark_28 rfl
  ·
    refine r_sipush (v := (-10101)) hC d_tb_mark_11 (by decide) ?_
    exact r_iret_si hC hR d_tb_mark_14 rfl
/-! TideTable.ratio(II)I -/
def tb_ratio (st : tt_St) (a1 : Int32) (a2 : Int32) : Int32 × tt_St := (if (se_knows st 3 a1) = 0 then ((-10101), st) else (if (tb_within a2 0 99) = 0 then ((-10102), st) else ((tt_I st (9 + Int32.toNatClampNeg a1) 3), tt_pI st (9 + Int32.toNatClampNeg a1) 3 a2)))
set_option maxHeartbeats 4000000 in
set_option maxRecDepth 20000 in
theorem c_tb_ratio (G : tt_G) (st : tt_St) (a1 : Int32) (a2 : Int32) (hI : tb_ok st) : tt_C y_tb_ratio prog_1_method_21_code 4 (some .int) 1 22 G [.ref (tt_ad G 0), .int a1, .int a2] st (some (.int (tb_ratio st a1 a2).1)) (tb_ratio st a1 a2).2 := by
  refine tt_enter_si (T := (tb_ratio st a1 a2)) (by decide +kernel) (Nat.le_of_ble_eq_true rfl) (fun κ hC hR => ?_)
  rw [tb_ratio]
  refine r_aload_n 0 hC d_tb_ratio_0 rfl ?_
  refine r_getR (r := 3) hC d_tb_ratio_1 fl_tb_19 rfl rfl rfl ?_
  refine r_iload_n 1 hC d_tb_ratio_4 rfl ?_
  refine r_callV (o := 3) (rest := []) (stk1 := [.int (se_knows st 3 a1)]) hC d_tb_ratio_5 (c_se_knows G st 3 a1 rfl) mw_se_knows mi_se_knows mz_se_knows ml_tb_64 rfl rfl rfl rfl rfl (Nat.le_of_ble_eq_true rfl) rfl ?_
  refine r_if_ne (tgt := 15) hC d_tb_ratio_8 (by decide) (fun c_8 => ?_) (fun c_8 => ?_)
  ·
    refine r_iload_n 2 hC d_tb_ratio_15 rfl ?_
    refine r_iconst (v := 0) hC d_tb_ratio_16 (by decide) ?_
    refine r_bipush (v := 99) hC d_tb_ratio_17 (by decide) ?_
    refine r_callS (rest := []) (stk1 := [.int (tb_within a2 0 99)]) hC d_tb_ratio_19 (c_tb_within G st a2 0 99) mw_tb_within ms_tb_within ml_tb_33 rfl rfl rfl (Nat.le_of_ble_eq_true rfl) rfl ?_
    refine r_if_ne (tgt := 29) hC d_tb_ratio_22 (by decide) (fun c_22 => ?_) (fun c_22 => ?_)
    ·
      refine r_aload_n 0 hC d_tb_ratio_29 rfl ?_
      refine r_getR (r := 3) hC d_tb_ratio_30 fl_tb_19 rfl rfl rfl ?_
      refine r_getR (r := 5) hC d_tb_ratio_33 fl_tb_68 rfl rfl rfl ?_
      refine r_iload_n 1 hC d_tb_ratio_36 rfl ?_
      have hb_37 : vp_in a1 4 := (se_knows_in hI rfl c_8)
      refine r_aald (r := (9 + Int32.toNatClampNeg a1)) (C := "TideTable$Port") hC d_tb_ratio_37 rfl (by decide) rfl (by decide) (fun _ => rfl) rfl hb_37 rfl ?_
      refine r_getI hC d_tb_ratio_38 fl_tb_83 rfl (tt_ci_5 hb_37) ?_
      refine r_istore_n [(3, .int (tt_I st (9 + Int32.toNatClampNeg a1) 3)), (0, .ref (tt_ad G 0)), (1, .int a1), (2, .int a2)] hC d_tb_ratio_41 rfl (by decide) rfl ?_
      refine r_aload_n 1 hC d_tb_ratio_42 rfl ?_
      refine r_getR (r := 3) hC d_tb_ratio_43 fl_tb_19 rfl rfl rfl ?_
      refine r_getR (r := 5) hC d_tb_ratio_46 fl_tb_68 rfl rfl rfl ?_
      refine r_iload_n 2 hC d_tb_ratio_49 rfl ?_
      have hb_50 : vp_in a1 4 := (se_knows_in hI rfl c_8)
      refine r_aald (r := (9 + Int32.toNatClampNeg a1)) (C := "TideTable$Port") hC d_tb_ratio_50 rfl (by decide) rfl (by decide) (fun _ => rfl) rfl hb_50 rfl ?_
      refine r_iload_n 3 hC d_tb_ratio_51 rfl ?_
      refine r_putI hC d_tb_ratio_52 fl_tb_83 fp_1_3 rfl (tt_ci_5 hb_50) rfl rfl ?_
      refine r_iload_n 0 hC d_tb_ratio_55 rfl ?_
      exact r_iret_si hC hR d_tb_ratio_56 rfl
    ·
      refine r_sipush (v := (-10102)) hC d_tb_ratio_25 (by decide) ?_
      exact r_iret_si hC hR d_tb_ratio_28 rfl
  ·
    refine r_sipush (v := (-10101)) hC d_tb_ratio_11 (by decide) ?_
    exact r_iret_si hC hR d_tb_ratio_14 rfl
/-! TideTable.be(II)I -/
def tb_be (st : tt_St) (a1 : Int32) (a2 : Int32) : Int32 × tt_St := (if (se_knows st 3 a1) = 0 then ((-10101), st) else (if (tb_within a2 0 4) = 0 then ((-10102), st) else (if a1 = 0 then (if a2 = 3 then ((-10102), st) else ((tt_I st (9 + Int32.toNatClampNeg a1) 0), tt_pI st (9 + Int32.toNatClampNeg a1) 0 a2)) else ((tt_I st (9 + Int32.toNatClampNeg a1) 0), tt_pI st (9 + Int32.toNatClampNeg a1) 0 a2))))
set_option maxHeartbeats 4000000 in
set_option maxRecDepth 20000 in
theorem c_tb_be (G : tt_G) (st : tt_St) (a1 : Int32) (a2 : Int32) (hI : tb_ok st) : tt_C y_tb_be prog_1_method_24_code 4 (some .int) 1 22 G [.ref (tt_ad G 0), .int a1, .int a2] st (some (.int (tb_be st a1 a2).1)) (tb_be st a1 a2).2 := by
  refine tt_enter_si (T := (tb_be st a1 a2)) (by decide +kernel) (Nat.le_of_ble_eq_true rfl) (fun κ hC hR => ?_)
  rw [tb_be]
  refine r_aload_n 0 hC d_tb_be_0 rfl ?_
  refine r_getR (r := 3) hC d_tb_be_1 fl_tb_19 rfl rfl rfl ?_
  refine r_iload_n 1 hC d_tb_be_4 rfl ?_
  refine r_callV (o := 3) (rest := []) (stk1 := [.int (se_knows st 3 a1)]) hC d_tb_be_5 (c_se_knows G st 3 a1 rfl) mw_se_knows mi_se_knows mz_se_knows ml_tb_64 rfl rfl rfl rfl rfl (Nat.le_of_ble_eq_true rfl) rfl ?_
  refine r_if_ne (tgt := 15) hC d_tb_be_8 (by decide) (fun c_8 => ?_) (fun c_8 => ?_)
  ·
    refine r_iload_n 2 hC d_tb_be_15 rfl ?_
    refine r_iconst (v := 0) hC d_tb_be_16 (by decide) ?_
    refine r_iconst (v := 4) hC d_tb_be_17 (by decide) ?_
    refine r_callS (rest := []) (stk1 := [.int (tb_within a2 0 4)]) hC d_tb_be_18 (c_tb_within G st a2 0 4) mw_tb_within ms_tb_within ml_tb_33 rfl rfl rfl (Nat.le_of_ble_eq_true rfl) rfl ?_
    refine r_if_eq (tgt := 33) hC d_tb_be_21 (by decide) (fun c_21 => ?_) (fun c_21 => ?_)
    ·
      refine r_sipush (v := (-10102)) hC d_tb_be_33 (by decide) ?_
      exact r_iret_si hC hR d_tb_be_36 rfl
    ·
      refine r_iload_n 1 hC d_tb_be_24 rfl ?_
      refine r_if_ne (tgt := 37) hC d_tb_be_25 (by decide) (fun c_25 => ?_) (fun c_25 => ?_)
      ·
        refine r_aload_n 0 hC d_tb_be_37 rfl ?_
        refine r_getR (r := 3) hC d_tb_be_38 fl_tb_19 rfl rfl rfl ?_
        refine r_getR (r := 5) hC d_tb_be_41 fl_tb_68 rfl rfl rfl ?_
        refine r_iload_n 1 hC d_tb_be_44 rfl ?_
        have hb_45 : vp_in a1 4 := (se_knows_in hI rfl c_8)
        refine r_aald (r := (9 + Int32.toNatClampNeg a1)) (C := "TideTable$Port") hC d_tb_be_45 rfl (by decide) rfl (by decide) (fun _ => rfl) rfl hb_45 rfl ?_
        refine r_getI hC d_tb_be_46 fl_tb_72 rfl (tt_ci_5 hb_45) ?_
        refine r_istore_n [(3, .int (tt_I st (9 + Int32.toNatClampNeg a1) 0)), (0, .ref (tt_ad G 0)), (1, .int a1), (2, .int a2)] hC d_tb_be_49 rfl (by decide) rfl ?_
        refine r_aload_n 1 hC d_tb_be_50 rfl ?_
        refine r_getR (r := 3) hC d_tb_be_51 fl_tb_19 rfl rfl rfl ?_
        refine r_getR (r := 5) hC d_tb_be_54 fl_tb_68 rfl rfl rfl ?_
        refine r_iload_n 2 hC d_tb_be_57 rfl ?_
        have hb_58 : vp_in a1 4 := (se_knows_in hI rfl c_8)
        refine r_aald (r := (9 + Int32.toNatClampNeg a1)) (C := "TideTable$Port") hC d_tb_be_58 rfl (by decide) rfl (by decide) (fun _ => rfl) rfl hb_58 rfl ?_
        refine r_iload_n 3 hC d_tb_be_59 rfl ?_
        refine r_putI hC d_tb_be_60 fl_tb_72 fp_1_0 rfl (tt_ci_5 hb_58) rfl rfl ?_
        refine r_iload_n 0 hC d_tb_be_63 rfl ?_
        exact r_iret_si hC hR d_tb_be_64 rfl
      ·
        refine r_iload_n 2 hC d_tb_be_28 rfl ?_
        refine r_iconst (v := 3) hC d_tb_be_29 (by decide) ?_
        refine r_icmp_ne (tgt := 37) hC d_tb_be_30 (by decide) (fun c_30 => ?_) (fun c_30 => ?_)
        ·
          refine r_aload_n 0 hC d_tb_be_37 rfl ?_
          refine r_getR (r := 3) hC d_tb_be_38 fl_tb_19 rfl rfl rfl ?_
          refine r_getR (r := 5) hC d_tb_be_41 fl_tb_68 rfl rfl rfl ?_
          refine r_iload_n 1 hC d_tb_be_44 rfl ?_
          have hb_45 : vp_in a1 4 := (se_knows_in hI rfl c_8)
          refine r_aald (r := (9 + Int32.toNatClampNeg a1)) (C := "TideTable$Port") hC d_tb_be_45 rfl (by decide) rfl (by decide) (fun _ => rfl) rfl hb_45 rfl ?_
          refine r_getI hC d_tb_be_46 fl_tb_72 rfl (tt_ci_5 hb_45) ?_
          refine r_istore_n [(3, .int (tt_I st (9 + Int32.toNatClampNeg a1) 0)), (0, .ref (tt_ad G 0)), (1, .int a1), (2, .int a2)] hC d_tb_be_49 rfl (by decide) rfl ?_
          refine r_aload_n 1 hC d_tb_be_50 rfl ?_
          refine r_getR (r := 3) hC d_tb_be_51 fl_tb_19 rfl rfl rfl ?_
          refine r_getR (r := 5) hC d_tb_be_54 fl_tb_68 rfl rfl rfl ?_
          refine r_iload_n 2 hC d_tb_be_57 rfl ?_
          have hb_58 : vp_in a1 4 := (se_knows_in hI rfl c_8)
          refine r_aald (r := (9 + Int32.toNatClampNeg a1)) (C := "TideTable$Port") hC d_tb_be_58 rfl (by decide) rfl (by decide) (fun _ => rfl) rfl hb_58 rfl ?_
          refine r_iload_n 3 hC d_tb_be_59 rfl ?_
          refine r_putI hC d_tb_be_60 fl_tb_72 fp_1_0 rfl (tt_ci_5 hb_58) rfl rfl ?_
          refine r_iload_n 0 hC d_tb_be_63 rfl ?_
          exact r_iret_si hC hR d_tb_be_64 rfl
        ·
          refine r_sipush (v := (-10102)) hC d_tb_be_33 (by decide) ?_
          exact r_iret_si hC hR d_tb_be_36 rfl
  ·
    refine r_sipush (v := (-10101)) hC d_tb_be_11 (by decide) ?_
    exact r_iret_si hC hR d_tb_be_14 rfl
/-! TideTable.see(IIZ)I -/
def tb_see (st : tt_St) (a1 : Int32) (a2 : Int32) (a3 : Int32) : Int32 × tt_St := (if (se_knows st 3 a1) = 0 then ((-10101), st) else (if (tb_within a2 0 (4 - 1)) = 0 then ((-10102), st) else (if (tt_I st 3 2) < 6 then ((tt_I (tt_pI (tt_pI st (9 + Int32.toNatClampNeg a1) 4 ((tt_I st (9 + Int32.toNatClampNeg a1) 4) &&& (if a3 = 0 then ((tt_sv 1 (Int32.toNatClampNeg a2)) ^^^ (-1)) else (tt_sv 1 (Int32.toNatClampNeg a2)) : Int32))) 3 2 ((tt_I (tt_pI st (9 + Int32.toNatClampNeg a1) 4 ((tt_I st (9 + Int32.toNatClampNeg a1) 4) &&& (if a3 = 0 then ((tt_sv 1 (Int32.toNatClampNeg a2)) ^^^ (-1)) else (tt_sv 1 (Int32.toNatClampNeg a2)) : Int32))) 3 2) + 1)) 3 2), tt_pI (tt_pI st (9 + Int32.toNatClampNeg a1) 4 ((tt_I st (9 + Int32.toNatClampNeg a1) 4) &&& (if a3 = 0 then ((tt_sv 1 (Int32.toNatClampNeg a2)) ^^^ (-1)) else (tt_sv 1 (Int32.toNatClampNeg a2)) : Int32))) 3 2 ((tt_I (tt_pI st (9 + Int32.toNatClampNeg a1) 4 ((tt_I st (9 + Int32.toNatClampNeg a1) 4) &&& (if a3 = 0 then ((tt_sv 1 (Int32.toNatClampNeg a2)) ^^^ (-1)) else (tt_sv 1 (Int32.toNatClampNeg a2)) : Int32))) 3 2) + 1)) else ((-10104), st))))
set_option maxHeartbeats 4000000 in
set_option maxRecDepth 20000 in
theorem c_tb_see (G : tt_G) (st : tt_St) (a1 : Int32) (a2 : Int32) (a3 : Int32) (hI : tb_ok st) : tt_C y_tb_see prog_1_method_25_code 4 (some .int) 1 22 G [.ref (tt_ad G 0), .int a1, .int a2, .int a3] st (some (.int (tb_see st a1 a2 a3).1)) (tb_see st a1 a2 a3).2 := by
  refine tt_enter_si (T := (tb_see st a1 a2 a3)) (by decide +kernel) (Nat.le_of_ble_eq_true rfl) (fun κ hC hR => ?_)
  rw [tb_see]
  refine r_aload_n 0 hC d_tb_see_0 rfl ?_
  refine r_getR (r := 3) hC d_tb_see_1 fl_tb_19 rfl rfl rfl ?_
  refine r_iload_n 1 hC d_tb_see_4 rfl ?_
  refine r_callV (o := 3) (rest := []) (stk1 := [.int (se_knows st 3 a1)]) hC d_tb_see_5 (c_se_knows G st 3 a1 rfl) mw_se_knows mi_se_knows mz_se_knows ml_tb_64 rfl rfl rfl rfl rfl (Nat.le_of_ble_eq_true rfl) rfl ?_
  refine r_if_ne (tgt := 15) hC d_tb_see_8 (by decide) (fun c_8 => ?_) (fun c_8 => ?_)
  ·
    refine r_iload_n 2 hC d_tb_see_15 rfl ?_
    refine r_iconst (v := 0) hC d_tb_see_16 (by decide) ?_
    refine r_gets (j := 1) hC d_tb_see_17 (by decide) gs_tb_152 ?_
    refine r_tlen (v := 4) hC d_tb_see_20 (by decide) (by decide) ?_
    refine r_iconst (v := 1) hC d_tb_see_21 (by decide) ?_
    refine r_isub hC d_tb_see_22 ?_
    refine r_callS (rest := []) (stk1 := [.int (tb_within a2 0 (4 - 1))]) hC d_tb_see_23 (c_tb_within G st a2 0 (4 - 1)) mw_tb_within ms_tb_within ml_tb_33 rfl rfl rfl (Nat.le_of_ble_eq_true rfl) rfl ?_
    refine r_if_ne (tgt := 33) hC d_tb_see_26 (by decide) (fun c_26 => ?_) (fun c_26 => ?_)
    ·
      refine r_aload_n 0 hC d_tb_see_33 rfl ?_
      refine r_getR (r := 3) hC d_tb_see_34 fl_tb_19 rfl rfl rfl ?_
      refine r_getI hC d_tb_see_37 fl_tb_155 rfl rfl ?_
      refine r_bipush (v := 6) hC d_tb_see_40 (by decide) ?_
      refine r_icmp_lt (tgt := 49) hC d_tb_see_42 (by decide) (fun c_42 => ?_) (fun c_42 => ?_)
      ·
        refine r_aload_n 0 hC d_tb_see_49 rfl ?_
        refine r_getR (r := 3) hC d_tb_see_50 fl_tb_19 rfl rfl rfl ?_
        refine r_getR (r := 5) hC d_tb_see_53 fl_tb_68 rfl rfl rfl ?_
        refine r_iload_n 1 hC d_tb_see_56 rfl ?_
        have hb_57 : vp_in a1 4 := (se_knows_in hI rfl c_8)
        refine r_aald (r := (9 + Int32.toNatClampNeg a1)) (C := "TideTable$Port") hC d_tb_see_57 rfl (by decide) rfl (by decide) (fun _ => rfl) rfl hb_57 rfl ?_
        refine r_dup hC d_tb_see_58 rfl ?_
        refine r_getI hC d_tb_see_59 fl_tb_87 rfl (tt_ci_5 hb_57) ?_
        refine r_iload_n 3 hC d_tb_see_62 rfl ?_
        refine tt_join 81 [(0, .ref (tt_ad G 0))] [.int (if a3 = 0 then ((tt_sv 1 (Int32.toNatClampNeg a2)) ^^^ (-1)) else (tt_sv 1 (Int32.toNatClampNeg a2)) : Int32), .int (tt_I st (9 + Int32.toNatClampNeg a1) 4), .ref (tt_ad G (9 + Int32.toNatClampNeg a1))] ?_ (fun kj_63 => ?_)
        ·
          refine r_iand hC d_tb_see_81 ?_
          refine r_putI hC d_tb_see_82 fl_tb_87 fp_1_4 rfl (tt_ci_5 hb_57) rfl rfl ?_
          refine r_aload_n 0 hC d_tb_see_85 rfl ?_
          refine r_getR (r := 3) hC d_tb_see_86 fl_tb_19 rfl rfl rfl ?_
          refine r_dup hC d_tb_see_89 rfl ?_
          refine r_getI hC d_tb_see_90 fl_tb_155 rfl rfl ?_
          refine r_iconst (v := 1) hC d_tb_see_93 (by decide) ?_
          refine r_iadd hC d_tb_see_94 ?_
          refine r_putI hC d_tb_see_95 fl_tb_155 fp_2_2 rfl rfl rfl rfl ?_
          refine r_aload_n 0 hC d_tb_see_98 rfl ?_
          refine r_getR (r := 3) hC d_tb_see_99 fl_tb_19 rfl rfl rfl ?_
          refine r_getI hC d_tb_see_102 fl_tb_155 rfl rfl ?_
          exact r_iret_si hC hR d_tb_see_105 rfl
        ·
          refine j_if_eq (tgt := 74) hC d_tb_see_63 (by decide) (fun c_63 => ?_) (fun c_63 => ?_)
          ·
            refine r_gets (j := 1) hC d_tb_see_74 (by decide) gs_tb_152 ?_
            refine r_iload_n 2 hC d_tb_see_77 rfl ?_
            refine r_tald hC d_tb_see_78 (by decide) (show vp_in a2 4 from tb_within_in (by decide) c_26) ?_
            refine r_iconst (v := (-1)) hC d_tb_see_79 (by decide) ?_
            refine r_ixor hC d_tb_see_80 ?_
            exact tt_cast [0] rfl (by simp only [if_pos c_63]) kj_63
          ·
            refine r_gets (j := 1) hC d_tb_see_66 (by decide) gs_tb_152 ?_
            refine r_iload_n 2 hC d_tb_see_69 rfl ?_
            refine r_tald hC d_tb_see_70 (by decide) (show vp_in a2 4 from tb_within_in (by decide) c_26) ?_
            refine r_goto (tgt := 81) hC d_tb_see_71 (by decide) ?_
            exact tt_cast [0] rfl (by simp only [if_neg c_63]) kj_63
      ·
        refine r_sipush (v := (-10104)) hC d_tb_see_45 (by decide) ?_
        exact r_iret_si hC hR d_tb_see_48 rfl
    ·
      refine r_sipush (v := (-10102)) hC d_tb_see_29 (by decide) ?_
      exact r_iret_si hC hR d_tb_see_32 rfl
  ·
    refine r_sipush (v := (-10101)) hC d_tb_see_11 (by decide) ?_
    exact r_iret_si hC hR d_tb_see_14 rfl
/-! TideTable.count(I)I -/
def tb_count (st : tt_St) (a1 : Int32) : Int32 := (if a1 = 0 then (tt_I st 3 1) else (if a1 = 1 then (se_wavesOfAll st 3) else (if a1 = 2 then (se_followers st 3) else (if a1 = 3 then (se_greatestOnDay0 st 3) else (if a1 = 4 then (tt_I st 3 2) else (if a1 = 5 then (tt_I st 1 1) else (if a1 = 6 then (tt_I st 0 4) else (-10102))))))))
set_option maxHeartbeats 4000000 in
set_option maxRecDepth 20000 in
theorem c_tb_count (G : tt_G) (st : tt_St) (a1 : Int32) (hI : tb_ok st) : tt_C y_tb_count prog_1_method_30_code 2 (some .int) 6 141 G [.ref (tt_ad G 0), .int a1] st (some (.int (tb_count st a1))) st := by
  refine tt_enter_pi (T := (tb_count st a1)) (by decide +kernel) (Nat.le_of_ble_eq_true rfl) (fun κ hC hR => ?_)
  rw [tb_count]
  refine r_iload_n 1 hC d_tb_count_0 rfl ?_
  refine tt_ite (c := a1 = 0) (fun c_1_0 => ?_) (fun c_1_0 => ?_)
  ·
    refine r_tabIn (tgt := 44) (off := 43) hC d_tb_count_1 (by rw [c_1_0]; decide) (by rw [c_1_0]; decide) (by rw [c_1_0]; decide) (by decide) ?_
    refine r_aload_n 0 hC d_tb_count_44 rfl ?_
    refine r_getR (r := 3) hC d_tb_count_45 fl_tb_19 rfl rfl rfl ?_
    refine r_getI hC d_tb_count_48 fl_tb_63 rfl rfl ?_
    exact r_iret_pi hC hR d_tb_count_51 rfl
  ·
    refine tt_ite (c := a1 = 1) (fun c_1_1 => ?_) (fun c_1_1 => ?_)
    ·
      refine r_tabIn (tgt := 52) (off := 51) hC d_tb_count_1 (by rw [c_1_1]; decide) (by rw [c_1_1]; decide) (by rw [c_1_1]; decide) (by decide) ?_
      refine r_aload_n 0 hC d_tb_count_52 rfl ?_
      refine r_getR (r := 3) hC d_tb_count_53 fl_tb_19 rfl rfl rfl ?_
      refine r_callV (o := 3) (rest := []) (stk1 := [.int (se_wavesOfAll st 3)]) hC d_tb_count_56 (c_se_wavesOfAll G st 3 rfl hI) mw_se_wavesOfAll mi_se_wavesOfAll mz_se_wavesOfAll ml_tb_164 rfl rfl rfl rfl rfl (Nat.le_of_ble_eq_true rfl) rfl ?_
      exact r_iret_pi hC hR d_tb_count_59 rfl
    ·
      refine tt_ite (c := a1 = 2) (fun c_1_2 => ?_) (fun c_1_2 => ?_)
      ·
        refine r_tabIn (tgt := 60) (off := 59) hC d_tb_count_1 (by rw [c_1_2]; decide) (by rw [c_1_2]; decide) (by rw [c_1_2]; decide) (by decide) ?_
        refine r_aload_n 0 hC d_tb_count_60 rfl ?_
        refine r_getR (r := 3) hC d_tb_count_61 fl_tb_19 rfl rfl rfl ?_
        refine r_callV (o := 3) (rest := []) (stk1 := [.int (se_followers st 3)]) hC d_tb_count_64 (c_se_followers G st 3 rfl hI) mw_se_followers mi_se_followers mz_se_followers ml_tb_167 rfl rfl rfl rfl rfl (Nat.le_of_ble_eq_true rfl) rfl ?_
        exact r_iret_pi hC hR d_tb_count_67 rfl
      ·
        refine tt_ite (c := a1 = 3) (fun c_1_3 => ?_) (fun c_1_3 => ?_)
        ·
          refine r_tabIn (tgt := 68) (off := 67) hC d_tb_count_1 (by rw [c_1_3]; decide) (by rw [c_1_3]; decide) (by rw [c_1_3]; decide) (by decide) ?_
          refine r_aload_n 0 hC d_tb_count_68 rfl ?_
          refine r_getR (r := 3) hC d_tb_count_69 fl_tb_19 rfl rfl rfl ?_
          refine r_callV (o := 3) (rest := []) (stk1 := [.int (se_greatestOnDay0 st 3)]) hC d_tb_count_72 (c_se_greatestOnDay0 G st 3 rfl hI) mw_se_greatestOnDay0 mi_se_greatestOnDay0 mz_se_greatestOnDay0 ml_tb_170 rfl rfl rfl rfl rfl (Nat.le_of_ble_eq_true rfl) rfl ?_
          exact r_iret_pi hC hR d_tb_count_75 rfl
        ·
          refine tt_ite (c := a1 = 4) (fun c_1_4 => ?_) (fun c_1_4 => ?_)
          ·
            refine r_tabIn (tgt := 76) (off := 75) hC d_tb_count_1 (by rw [c_1_4]; decide) (by rw [c_1_4]; decide) (by rw [c_1_4]; decide) (by decide) ?_
            refine r_aload_n 0 hC d_tb_count_76 rfl ?_
            refine r_getR (r := 3) hC d_tb_count_77 fl_tb_19 rfl rfl rfl ?_
            refine r_getI hC d_tb_count_80 fl_tb_155 rfl rfl ?_
            exact r_iret_pi hC hR d_tb_count_83 rfl
          ·
            refine tt_ite (c := a1 = 5) (fun c_1_5 => ?_) (fun c_1_5 => ?_)
            ·
              refine r_tabIn (tgt := 84) (off := 83) hC d_tb_count_1 (by rw [c_1_5]; decide) (by rw [c_1_5]; decide) (by rw [c_1_5]; decide) (by decide) ?_
              refine r_aload_n 0 hC d_tb_count_84 rfl ?_
              refine r_getR (r := 1) hC d_tb_count_85 fl_tb_12 rfl rfl rfl ?_
              refine r_getI hC d_tb_count_88 fl_tb_37 rfl rfl ?_
              exact r_iret_pi hC hR d_tb_count_91 rfl
            ·
              refine tt_ite (c := a1 = 6) (fun c_1_6 => ?_) (fun c_1_6 => ?_)
              ·
                refine r_tabIn (tgt := 92) (off := 91) hC d_tb_count_1 (by rw [c_1_6]; decide) (by rw [c_1_6]; decide) (by rw [c_1_6]; decide) (by decide) ?_
                refine r_aload_n 0 hC d_tb_count_92 rfl ?_
                refine r_getI hC d_tb_count_93 fl_tb_60 rfl rfl ?_
                exact r_iret_pi hC hR d_tb_count_96 rfl
              ·
                have nc_1_0 := lv_neT (a := 0) c_1_0 (by decide)
                have nc_1_1 := lv_neT (a := 1) c_1_1 (by decide)
                have nc_1_2 := lv_neT (a := 2) c_1_2 (by decide)
                have nc_1_3 := lv_neT (a := 3) c_1_3 (by decide)
                have nc_1_4 := lv_neT (a := 4) c_1_4 (by decide)
                have nc_1_5 := lv_neT (a := 5) c_1_5 (by decide)
                have nc_1_6 := lv_neT (a := 6) c_1_6 (by decide)
                refine r_tabOut (tgt := 97) hC d_tb_count_1 (by omega) (by decide) ?_
                refine r_sipush (v := (-10102)) hC d_tb_count_97 (by decide) ?_
                exact r_iret_pi hC hR d_tb_count_100 rfl
/-! TideTable$Port.putWave(III)V -/
def po_putWave (st : tt_St) (o : Nat) (a1 : Int32) (a2 : Int32) (a3 : Int32) : tt_St := (if 3 ≤ (tt_I st o 6) then st else tt_pI (wa_put st (tt_wv o (Int32.toNatClampNeg (tt_I st o 6))) a1 a2 a3) o 6 ((tt_I (wa_put st (tt_wv o (Int32.toNatClampNeg (tt_I st o 6))) a1 a2 a3) o 6) + 1))
set_option maxHeartbeats 4000000 in
set_option maxRecDepth 20000 in
theorem c_po_putWave (G : tt_G) (st : tt_St) (o : Nat) (a1 : Int32) (a2 : Int32) (a3 : Int32) (ho : tt_ci o = 1) (hI : tb_ok st) : tt_C y_po_putWave prog_3_method_6_code 4 none 1 23 G [.ref (tt_ad G o), .int a1, .int a2, .int a3] st none (po_putWave st o a1 a2 a3) := by
  refine tt_enter_sv (T := (po_putWave st o a1 a2 a3)) (by decide +kernel) (Nat.le_of_ble_eq_true rfl) (fun κ hC hR => ?_)
  rw [po_putWave]
  refine r_aload_n 0 hC d_po_putWave_0 rfl ?_
  refine r_getI hC d_po_putWave_1 fl_po_34 rfl ho ?_
  refine r_iconst (v := 3) hC d_po_putWave_4 (by decide) ?_
  refine r_icmp_ge (tgt := 33) hC d_po_putWave_5 (by decide) (fun c_5 => ?_) (fun c_5 => ?_)
  ·
    exact r_vret_sv hC hR d_po_putWave_33
  ·
    refine r_aload_n 0 hC d_po_putWave_8 rfl ?_
    refine r_getR (r := (o + 8)) hC d_po_putWave_9 fl_po_17 rfl ho (tt_R_po ho) ?_
    refine r_aload_n 0 hC d_po_putWave_12 rfl ?_
    refine r_getI hC d_po_putWave_13 fl_po_34 rfl ho ?_
    have hb_16 : vp_in (tt_I st o 6) 3 := (po_many_in hI ho c_5)
    refine r_aald (r := (tt_wv o (Int32.toNatClampNeg (tt_I st o 6)))) (C := "TideTable$Wave") hC d_po_putWave_16 (tt_ar_po ho).1 (tt_ar_po ho).2.1 (tt_ar_po ho).2.2.1 (by decide) (fun _ => rfl) (tt_ar_po ho).2.2.2 hb_16 (tt_wv_RA ho) ?_
    refine r_iload_n 1 hC d_po_putWave_17 rfl ?_
    refine r_iload_n 2 hC d_po_putWave_18 rfl ?_
    refine r_iload_n 3 hC d_po_putWave_19 rfl ?_
    refine r_callV (o := (tt_wv o (Int32.toNatClampNeg (tt_I st o 6)))) (rest := []) (stk1 := []) hC d_po_putWave_20 (c_wa_put G st (tt_wv o (Int32.toNatClampNeg (tt_I st o 6))) a1 a2 a3 (tt_wv_ci ho hb_16)) mw_wa_put mi_wa_put mz_wa_put ml_po_54 (tt_wv_ci ho hb_16) rfl rfl rfl rfl (Nat.le_of_ble_eq_true rfl) rfl ?_
    refine r_aload_n 0 hC d_po_putWave_23 rfl ?_
    refine r_dup hC d_po_putWave_24 rfl ?_
    refine r_getI hC d_po_putWave_25 fl_po_34 rfl ho ?_
    refine r_iconst (v := 1) hC d_po_putWave_28 (by decide) ?_
    refine r_iadd hC d_po_putWave_29 ?_
    refine r_putI hC d_po_putWave_30 fl_po_34 fp_1_6 rfl ho rfl rfl ?_
    exact r_vret_sv hC hR d_po_putWave_33
/-! TideTable.add(IIII)I -/
def tb_add (st : tt_St) (a1 : Int32) (a2 : Int32) (a3 : Int32) (a4 : Int32) : Int32 × tt_St := (if (se_knows st 3 a1) = 0 then ((-10101), st) else (if (tb_within a2 1 99) = 0 then ((-10102), st) else (if (tb_within a3 0 99) = 0 then ((-10102), st) else (if (tb_within a4 0 63) = 0 then ((-10102), st) else (if (tt_I st (9 + Int32.toNatClampNeg a1) 6) < 3 then ((tt_I (po_putWave st (9 + Int32.toNatClampNeg a1) a2 a3 a4) (9 + Int32.toNatClampNeg a1) 6), (po_putWave st (9 + Int32.toNatClampNeg a1) a2 a3 a4)) else ((-10104), st))))))
set_option maxHeartbeats 4000000 in
set_option maxRecDepth 20000 in
theorem c_tb_add (G : tt_G) (st : tt_St) (a1 : Int32) (a2 : Int32) (a3 : Int32) (a4 : Int32) (hI : tb_ok st) : tt_C y_tb_add prog_1_method_22_code 6 (some .int) 2 46 G [.ref (tt_ad G 0), .int a1, .int a2, .int a3, .int a4] st (some (.int (tb_add st a1 a2 a3 a4).1)) (tb_add st a1 a2 a3 a4).2 := by
  refine tt_enter_si (T := (tb_add st a1 a2 a3 a4)) (by decide +kernel) (Nat.le_of_ble_eq_true rfl) (fun κ hC hR => ?_)
  rw [tb_add]
  refine r_aload_n 0 hC d_tb_add_0 rfl ?_
  refine r_getR (r := 3) hC d_tb_add_1 fl_tb_19 rfl rfl rfl ?_
  refine r_iload_n 1 hC d_tb_add_4 rfl ?_
  refine r_callV (o := 3) (rest := []) (stk1 := [.int (se_knows st 3 a1)]) hC d_tb_add_5 (c_se_knows G st 3 a1 rfl) mw_se_knows mi_se_knows mz_se_knows ml_tb_64 rfl rfl rfl rfl rfl (Nat.le_of_ble_eq_true rfl) rfl ?_
  refine r_if_ne (tgt := 15) hC d_tb_add_8 (by decide) (fun c_8 => ?_) (fun c_8 => ?_)
  ·
    refine r_iload_n 2 hC d_tb_add_15 rfl ?_
    refine r_iconst (v := 1) hC d_tb_add_16 (by decide) ?_
    refine r_bipush (v := 99) hC d_tb_add_17 (by decide) ?_
    refine r_callS (rest := []) (stk1 := [.int (tb_within a2 1 99)]) hC d_tb_add_19 (c_tb_within G st a2 1 99) mw_tb_within ms_tb_within ml_tb_33 rfl rfl rfl (Nat.le_of_ble_eq_true rfl) rfl ?_
    refine r_if_eq (tgt := 46) hC d_tb_add_22 (by decide) (fun c_22 => ?_) (fun c_22 => ?_)
    ·
      refine r_sipush (v := (-10102)) hC d_tb_add_46 (by decide) ?_
      exact r_iret_si hC hR d_tb_add_49 rfl
    ·
      refine r_iload_n 3 hC d_tb_add_25 rfl ?_
      refine r_iconst (v := 0) hC d_tb_add_26 (by decide) ?_
      refine r_bipush (v := 99) hC d_tb_add_27 (by decide) ?_
      refine r_callS (rest := []) (stk1 := [.int (tb_within a3 0 99)]) hC d_tb_add_29 (c_tb_within G st a3 0 99) mw_tb_within ms_tb_within ml_tb_33 rfl rfl rfl (Nat.le_of_ble_eq_true rfl) rfl ?_
      refine r_if_eq (tgt := 46) hC d_tb_add_32 (by decide) (fun c_32 => ?_) (fun c_32 => ?_)
      ·
        refine r_sipush (v := (-10102)) hC d_tb_add_46 (by decide) ?_
        exact r_iret_si hC hR d_tb_add_49 rfl
      ·
        refine r_iload 4 hC d_tb_add_35 rfl ?_
        refine r_iconst (v := 0) hC d_tb_add_37 (by decide) ?_
        refine r_bipush (v := 63) hC d_tb_add_38 (by decide) ?_
        refine r_callS (rest := []) (stk1 := [.int (tb_within a4 0 63)]) hC d_tb_add_40 (c_tb_within G st a4 0 63) mw_tb_within ms_tb_within ml_tb_33 rfl rfl rfl (Nat.le_of_ble_eq_true rfl) rfl ?_
        refine r_if_ne (tgt := 50) hC d_tb_add_43 (by decide) (fun c_43 => ?_) (fun c_43 => ?_)
        ·
          refine r_aload_n 0 hC d_tb_add_50 rfl ?_
          refine r_getR (r := 3) hC d_tb_add_51 fl_tb_19 rfl rfl rfl ?_
          refine r_getR (r := 5) hC d_tb_add_54 fl_tb_68 rfl rfl rfl ?_
          refine r_iload_n 1 hC d_tb_add_57 rfl ?_
          have hb_58 : vp_in a1 4 := (se_knows_in hI rfl c_8)
          refine r_aald (r := (9 + Int32.toNatClampNeg a1)) (C := "TideTable$Port") hC d_tb_add_58 rfl (by decide) rfl (by decide) (fun _ => rfl) rfl hb_58 rfl ?_
          refine r_astore [(5, .ref (tt_ad G (9 + Int32.toNatClampNeg a1))), (0, .ref (tt_ad G 0)), (1, .int a1), (2, .int a2), (3, .int a3), (4, .int a4)] hC d_tb_add_59 (by decide) rfl ?_
          refine r_aload 0 hC d_tb_add_61 rfl ?_
          refine r_getI hC d_tb_add_63 fl_tb_86 rfl (tt_ci_5 hb_58) ?_
          refine r_iconst (v := 3) hC d_tb_add_66 (by decide) ?_
          refine r_icmp_lt (tgt := 74) hC d_tb_add_67 (by decide) (fun c_67 => ?_) (fun c_67 => ?_)
          ·
            refine r_aload 0 hC d_tb_add_74 rfl ?_
            refine r_iload_n 3 hC d_tb_add_76 rfl ?_
            refine r_iload_n 4 hC d_tb_add_77 rfl ?_
            refine r_iload 5 hC d_tb_add_78 rfl ?_
            refine r_callV (o := (9 + Int32.toNatClampNeg a1)) (rest := []) (stk1 := []) hC d_tb_add_80 (c_po_putWave G st (9 + Int32.toNatClampNeg a1) a2 a3 a4 (tt_ci_5 hb_58) hI) mw_po_putWave mi_po_putWave mz_po_putWave ml_tb_144 (tt_ci_5 hb_58) rfl rfl rfl rfl (Nat.le_of_ble_eq_true rfl) rfl ?_
            refine r_aload 0 hC d_tb_add_83 rfl ?_
            refine r_getI hC d_tb_add_85 fl_tb_86 rfl (tt_ci_5 hb_58) ?_
            exact r_iret_si hC hR d_tb_add_88 rfl
          ·
            refine r_sipush (v := (-10104)) hC d_tb_add_70 (by decide) ?_
            exact r_iret_si hC hR d_tb_add_73 rfl
        ·
          refine r_sipush (v := (-10102)) hC d_tb_add_46 (by decide) ?_
          exact r_iret_si hC hR d_tb_add_49 rfl
  ·
    refine r_sipush (v := (-10101)) hC d_tb_add_11 (by decide) ?_
    exact r_iret_si hC hR d_tb_add_14 rfl
/-! TideTable$Port.dropWave(I)V -/
def po_dropWave_l2 (o : Nat) (a1 : Int32) (m : Nat) : Nat → Nat → tt_St → tt_St
  | 0, j, st => st
  | n + 1, j, st => (po_dropWave_l2 o a1 m n (j + 1) (wa_put st (tt_wv o (Int32.toNatClampNeg (a1 + nI j))) (tt_I st (tt_wv o (Int32.toNatClampNeg ((a1 + nI j) + 1))) 0) (tt_I st (tt_wv o (Int32.toNatClampNeg ((a1 + nI j) + 1))) 1) (tt_I st (tt_wv o (Int32.toNatClampNeg ((a1 + nI j) + 1))) 2)))
set_option maxHeartbeats 4000000 in
set_option maxRecDepth 20000 in
theorem l_po_dropWave_2 {α : Type} {G : tt_G} {κ : tt_X α} {T : α} (hC : tt_Cx G κ prog_3_method_7_code "TideTable$Port" 4 1 23) (o : Nat) (a1 : Int32) (m : Nat) (ho : tt_ci o = 1) (hm : m ≤ 3) (hw2 : vp_in a1 m) : ∀ (n j : Nat) (st : tt_St), j + n = m - 1 - Int32.toNatClampNeg a1 → tt_I st o 6 = nI m → tt_V G κ T (po_dropWave_l2 o a1 m n j st) 48 [(0, .ref (tt_ad G o))] [] → tt_V G κ T st 2 [(0, .ref (tt_ad G o)), (2, .int (a1 + nI j))] [] := by
  intro n
  induction n with
  | zero =>
    intro j st hj hb k
    refine r_iload_n 1 hC d_po_dropWave_2 rfl ?_
    refine r_iconst (v := 1) hC d_po_dropWave_3 (by decide) ?_
    refine r_iadd hC d_po_dropWave_4 ?_
    refine r_aload_n 0 hC d_po_dropWave_5 rfl ?_
    refine r_getI hC d_po_dropWave_6 fl_po_34 rfl ho ?_
    refine t_icmp_ge (tgt := 48) hC d_po_dropWave_9 (by decide) (by rw [hb]; exact tt_drE hw2 hm (by omega)) ?_
    exact tt_cast [0] rfl rfl k
  | succ n ih =>
    intro j st hj hb k
    refine r_iload_n 1 hC d_po_dropWave_2 rfl ?_
    refine r_iconst (v := 1) hC d_po_dropWave_3 (by decide) ?_
    refine r_iadd hC d_po_dropWave_4 ?_
    refine r_aload_n 0 hC d_po_dropWave_5 rfl ?_
    refine r_getI hC d_po_dropWave_6 fl_po_34 rfl ho ?_
    refine f_icmp_ge (tgt := 48) hC d_po_dropWave_9 (by decide) (by rw [hb]; exact tt_drS hw2 hm (by omega)) ?_
    refine r_aload_n 0 hC d_po_dropWave_12 rfl ?_
    refine r_getR (r := (o + 8)) hC d_po_dropWave_13 fl_po_17 rfl ho (tt_R_po ho) ?_
    refine r_iload_n 1 hC d_po_dropWave_16 rfl ?_
    refine r_iconst (v := 1) hC d_po_dropWave_17 (by decide) ?_
    refine r_iadd hC d_po_dropWave_18 ?_
    have hb_19 : vp_in ((a1 + nI j) + 1) 3 := (tt_drI hw2 hm (by omega)).1
    refine r_aald (r := (tt_wv o (Int32.toNatClampNeg ((a1 + nI j) + 1)))) (C := "TideTable$Wave") hC d_po_dropWave_19 (tt_ar_po ho).1 (tt_ar_po ho).2.1 (tt_ar_po ho).2.2.1 (by decide) (fun _ => rfl) (tt_ar_po ho).2.2.2 hb_19 (tt_wv_RA ho) ?_
    refine r_astore_n [(3, .ref (tt_ad G (tt_wv o (Int32.toNatClampNeg ((a1 + nI j) + 1))))), (0, .ref (tt_ad G o)), (2, .int (a1 + nI j))] hC d_po_dropWave_20 rfl (by decide) rfl ?_
    refine r_aload_n 1 hC d_po_dropWave_21 rfl ?_
    refine r_getR (r := (o + 8)) hC d_po_dropWave_22 fl_po_17 rfl ho (tt_R_po ho) ?_
    refine r_iload_n 2 hC d_po_dropWave_25 rfl ?_
    have hb_26 : vp_in (a1 + nI j) 3 := (tt_drI hw2 hm (by omega)).2
    refine r_aald (r := (tt_wv o (Int32.toNatClampNeg (a1 + nI j)))) (C := "TideTable$Wave") hC d_po_dropWave_26 (tt_ar_po ho).1 (tt_ar_po ho).2.1 (tt_ar_po ho).2.2.1 (by decide) (fun _ => rfl) (tt_ar_po ho).2.2.2 hb_26 (tt_wv_RA ho) ?_
    refine r_aload_n 0 hC d_po_dropWave_27 rfl ?_
    refine r_getI hC d_po_dropWave_28 fl_po_41 rfl (tt_wv_ci ho hb_19) ?_
    refine r_aload_n 0 hC d_po_dropWave_31 rfl ?_
    refine r_getI hC d_po_dropWave_32 fl_po_44 rfl (tt_wv_ci ho hb_19) ?_
    refine r_aload_n 0 hC d_po_dropWave_35 rfl ?_
    refine r_getI hC d_po_dropWave_36 fl_po_47 rfl (tt_wv_ci ho hb_19) ?_
    refine r_callV (o := (tt_wv o (Int32.toNatClampNeg (a1 + nI j)))) (rest := []) (stk1 := []) hC d_po_dropWave_39 (c_wa_put G st (tt_wv o (Int32.toNatClampNeg (a1 + nI j))) (tt_I st (tt_wv o (Int32.toNatClampNeg ((a1 + nI j) + 1))) 0) (tt_I st (tt_wv o (Int32.toNatClampNeg ((a1 + nI j) + 1))) 1) (tt_I st (tt_wv o (Int32.toNatClampNeg ((a1 + nI j) + 1))) 2) (tt_wv_ci ho hb_26)) mw_wa_put mi_wa_put mz_wa_put ml_po_54 (tt_wv_ci ho hb_26) rfl rfl rfl rfl (Nat.le_of_ble_eq_true rfl) rfl ?_
    refine r_iinc 2 (a1 + nI (j + 1)) [(2, .int (a1 + nI (j + 1))), (3, .ref (tt_ad G (tt_wv o (Int32.toNatClampNeg ((a1 + nI j) + 1))))), (0, .ref (tt_ad G o))] hC d_po_dropWave_42 rfl (by rw [nI_succ, ← Int32.add_assoc]; rfl) (by decide) rfl ?_
    refine r_goto (tgt := 2) hC d_po_dropWave_45 (by decide) ?_
    exact tt_cast [2, 0] rfl rfl (ih (j + 1) (wa_put st (tt_wv o (Int32.toNatClampNeg (a1 + nI j))) (tt_I st (tt_wv o (Int32.toNatClampNeg ((a1 + nI j) + 1))) 0) (tt_I st (tt_wv o (Int32.toNatClampNeg ((a1 + nI j) + 1))) 1) (tt_I st (tt_wv o (Int32.toNatClampNeg ((a1 + nI j) + 1))) 2)) (by omega) (by rw [wa_put_ne (tt_wv_ne ho)]; exact hb) (by simpa only [po_dropWave_l2] using k))
def po_dropWave (st : tt_St) (o : Nat) (a1 : Int32) : tt_St := tt_pI (po_dropWave_l2 o a1 (Int32.toNatClampNeg (tt_I st o 6)) ((Int32.toNatClampNeg (tt_I st o 6)) - 1 - Int32.toNatClampNeg a1) 0 st) o 6 ((tt_I (po_dropWave_l2 o a1 (Int32.toNatClampNeg (tt_I st o 6)) ((Int32.toNatClampNeg (tt_I st o 6)) - 1 - Int32.toNatClampNeg a1) 0 st) o 6) - 1)
set_option maxHeartbeats 4000000 in
set_option maxRecDepth 20000 in
theorem c_po_dropWave (G : tt_G) (st : tt_St) (o : Nat) (a1 : Int32) (ho : tt_ci o = 1) (hI : tb_ok st) (hw : vp_in a1 (Int32.toNatClampNeg (tt_I st o 6))) : tt_C y_po_dropWave prog_3_method_7_code 4 none 1 23 G [.ref (tt_ad G o), .int a1] st none (po_dropWave st o a1) := by
  refine tt_enter_sv (T := (po_dropWave st o a1)) (by decide +kernel) (Nat.le_of_ble_eq_true rfl) (fun κ hC hR => ?_)
  rw [po_dropWave]
  refine r_iload_n 1 hC d_po_dropWave_0 rfl ?_
  refine r_istore_n [(2, .int a1), (0, .ref (tt_ad G o)), (1, .int a1)] hC d_po_dropWave_1 rfl (by decide) rfl ?_
  refine tt_cast [1, 0] (by simp only [nI_0, Int32.add_zero]; rfl) rfl (l_po_dropWave_2 hC o a1 (Int32.toNatClampNeg (tt_I st o 6)) ho (tt_cle (hI.1 o ho).2) hw ((Int32.toNatClampNeg (tt_I st o 6)) - 1 - Int32.toNatClampNeg a1) 0 st (by omega) (tt_nIc (hI.1 o ho).1).symm ?_)
  refine r_aload_n 0 hC d_po_dropWave_48 rfl ?_
  refine r_dup hC d_po_dropWave_49 rfl ?_
  refine r_getI hC d_po_dropWave_50 fl_po_34 rfl ho ?_
  refine r_iconst (v := 1) hC d_po_dropWave_53 (by decide) ?_
  refine r_isub hC d_po_dropWave_54 ?_
  refine r_putI hC d_po_dropWave_55 fl_po_34 fp_1_6 rfl ho rfl rfl ?_
  exact r_vret_sv hC hR d_po_dropWave_58
/-! TideTable.take(II)I -/
def tb_take (st : tt_St) (a1 : Int32) (a2 : Int32) : Int32 × tt_St := (if (se_knows st 3 a1) = 0 then ((-10101), st) else (if (po_has st (9 + Int32.toNatClampNeg a1) a2) = 0 then ((-10101), st) else ((tt_I (po_dropWave st (9 + Int32.toNatClampNeg a1) a2) (9 + Int32.toNatClampNeg a1) 6), (po_dropWave st (9 + Int32.toNatClampNeg a1) a2))))
set_option maxHeartbeats 4000000 in
set_option maxRecDepth 20000 in
theorem c_tb_take (G : tt_G) (st : tt_St) (a1 : Int32) (a2 : Int32) (hI : tb_ok st) : tt_C y_tb_take prog_1_method_23_code 3 (some .int) 2 46 G [.ref (tt_ad G 0), .int a1, .int a2] st (some (.int (tb_take st a1 a2).1)) (tb_take st a1 a2).2 := by
  refine tt_enter_si (T := (tb_take st a1 a2)) (by decide +kernel) (Nat.le_of_ble_eq_true rfl) (fun κ hC hR => ?_)
  rw [tb_take]
  refine r_aload_n 0 hC d_tb_take_0 rfl ?_
  refine r_getR (r := 3) hC d_tb_take_1 fl_tb_19 rfl rfl rfl ?_
  refine r_iload_n 1 hC d_tb_take_4 rfl ?_
  refine r_callV (o := 3) (rest := []) (stk1 := [.int (se_knows st 3 a1)]) hC d_tb_take_5 (c_se_knows G st 3 a1 rfl) mw_se_knows mi_se_knows mz_se_knows ml_tb_64 rfl rfl rfl rfl rfl (Nat.le_of_ble_eq_true rfl) rfl ?_
  refine r_if_eq (tgt := 27) hC d_tb_take_8 (by decide) (fun c_8 => ?_) (fun c_8 => ?_)
  ·
    refine r_sipush (v := (-10101)) hC d_tb_take_27 (by decide) ?_
    exact r_iret_si hC hR d_tb_take_30 rfl
  ·
    refine r_aload_n 0 hC d_tb_take_11 rfl ?_
    refine r_getR (r := 3) hC d_tb_take_12 fl_tb_19 rfl rfl rfl ?_
    refine r_getR (r := 5) hC d_tb_take_15 fl_tb_68 rfl rfl rfl ?_
    refine r_iload_n 1 hC d_tb_take_18 rfl ?_
    have hb_19 : vp_in a1 4 := (se_knows_in hI rfl c_8)
    refine r_aald (r := (9 + Int32.toNatClampNeg a1)) (C := "TideTable$Port") hC d_tb_take_19 rfl (by decide) rfl (by decide) (fun _ => rfl) rfl hb_19 rfl ?_
    refine r_iload_n 2 hC d_tb_take_20 rfl ?_
    refine r_callV (o := (9 + Int32.toNatClampNeg a1)) (rest := []) (stk1 := [.int (po_has st (9 + Int32.toNatClampNeg a1) a2)]) hC d_tb_take_21 (c_po_has G st (9 + Int32.toNatClampNeg a1) a2 (tt_ci_5 hb_19)) mw_po_has mi_po_has mz_po_has ml_tb_94 (tt_ci_5 hb_19) rfl rfl rfl rfl (Nat.le_of_ble_eq_true rfl) rfl ?_
    refine r_if_ne (tgt := 31) hC d_tb_take_24 (by decide) (fun c_24 => ?_) (fun c_24 => ?_)
    ·
      refine r_aload_n 0 hC d_tb_take_31 rfl ?_
      refine r_getR (r := 3) hC d_tb_take_32 fl_tb_19 rfl rfl rfl ?_
      refine r_getR (r := 5) hC d_tb_take_35 fl_tb_68 rfl rfl rfl ?_
      refine r_iload_n 1 hC d_tb_take_38 rfl ?_
      have hb_39 : vp_in a1 4 := (se_knows_in hI rfl c_8)
      refine r_aald (r := (9 + Int32.toNatClampNeg a1)) (C := "TideTable$Port") hC d_tb_take_39 rfl (by decide) rfl (by decide) (fun _ => rfl) rfl hb_39 rfl ?_
      refine r_iload_n 2 hC d_tb_take_40 rfl ?_
      refine r_callV (o := (9 + Int32.toNatClampNeg a1)) (rest := []) (stk1 := []) hC d_tb_take_41 (c_po_dropWave G st (9 + Int32.toNatClampNeg a1) a2 (tt_ci_5 hb_39) hI (po_has_in hI (tt_ci_5 hb_39) c_24).2) mw_po_dropWave mi_po_dropWave mz_po_dropWave ml_tb_148 (tt_ci_5 hb_39) rfl rfl rfl rfl (Nat.le_of_ble_eq_true rfl) rfl ?_
      refine r_aload_n 0 hC d_tb_take_44 rfl ?_
      refine r_getR (r := 3) hC d_tb_take_45 fl_tb_19 rfl rfl rfl ?_
      refine r_getR (r := 5) hC d_tb_take_48 fl_tb_68 rfl rfl rfl ?_
      refine r_iload_n 1 hC d_tb_take_51 rfl ?_
      have hb_52 : vp_in a1 4 := (se_knows_in hI rfl c_8)
      refine r_aald (r := (9 + Int32.toNatClampNeg a1)) (C := "TideTable$Port") hC d_tb_take_52 rfl (by decide) rfl (by decide) (fun _ => rfl) rfl hb_52 rfl ?_
      refine r_getI hC d_tb_take_53 fl_tb_86 rfl (tt_ci_5 hb_52) ?_
      exact r_iret_si hC hR d_tb_take_56 rfl
    ·
      refine r_sipush (v := (-10101)) hC d_tb_take_27 (by decide) ?_
      exact r_iret_si hC hR d_tb_take_30 rfl
/-! TideTable.forget()I -/
def tb_forget_l10 (x1 : Int32) (m : Nat) : Nat → Nat → tt_St → tt_St
  | 0, j, st => st
  | n + 1, j, st => (tb_forget_l10 x1 m n (j + 1) (tt_pI st (9 + Int32.toNatClampNeg (nI j)) 4 31))
set_option maxHeartbeats 4000000 in
set_option maxRecDepth 20000 in
theorem l_tb_forget_10 {α : Type} {G : tt_G} {κ : tt_X α} {T : α} (hC : tt_Cx G κ prog_1_method_26_code "TideTable" 3 0 0) (x1 : Int32) (m : Nat) (hm4 : m ≤ 4) : ∀ (n j : Nat) (st : tt_St), j + n = m → tt_I st 3 1 = nI m → tt_V G κ T (tb_forget_l10 x1 m n j st) 41 [(0, .ref (tt_ad G 0)), (1, .int x1)] [] → tt_V G κ T st 10 [(0, .ref (tt_ad G 0)), (1, .int x1), (2, .int (nI j))] [] := by
  intro n
  induction n with
  | zero =>
    intro j st hj hb k
    refine r_iload_n 2 hC d_tb_forget_10 rfl ?_
    refine r_aload_n 0 hC d_tb_forget_11 rfl ?_
    refine r_getR (r := 3) hC d_tb_forget_12 fl_tb_19 rfl rfl rfl ?_
    refine r_getI hC d_tb_forget_15 fl_tb_63 rfl rfl ?_
    refine t_icmp_ge (tgt := 41) hC d_tb_forget_18 (by decide) (by rw [hb]; exact nI_le (by omega) (by omega)) ?_
    exact tt_cast [0, 1] rfl rfl k
  | succ n ih =>
    intro j st hj hb k
    refine r_iload_n 2 hC d_tb_forget_10 rfl ?_
    refine r_aload_n 0 hC d_tb_forget_11 rfl ?_
    refine r_getR (r := 3) hC d_tb_forget_12 fl_tb_19 rfl rfl rfl ?_
    refine r_getI hC d_tb_forget_15 fl_tb_63 rfl rfl ?_
    refine f_icmp_ge (tgt := 41) hC d_tb_forget_18 (by decide) (by rw [hb]; exact nI_ge (a := j) (b := m) (by omega) (by omega)) ?_
    refine r_aload_n 0 hC d_tb_forget_21 rfl ?_
    refine r_getR (r := 3) hC d_tb_forget_22 fl_tb_19 rfl rfl rfl ?_
    refine r_getR (r := 5) hC d_tb_forget_25 fl_tb_68 rfl rfl rfl ?_
    refine r_iload_n 2 hC d_tb_forget_28 rfl ?_
    have hb_29 : vp_in (nI j) 4 := (vp_in_nI (by omega) (by omega))
    refine r_aald (r := (9 + Int32.toNatClampNeg (nI j))) (C := "TideTable$Port") hC d_tb_forget_29 rfl (by decide) rfl (by decide) (fun _ => rfl) rfl hb_29 rfl ?_
    refine r_bipush (v := 31) hC d_tb_forget_30 (by decide) ?_
    refine r_putI hC d_tb_forget_32 fl_tb_87 fp_1_4 rfl (tt_ci_5 hb_29) rfl rfl ?_
    refine r_iinc 2 (nI (j + 1)) [(2, .int (nI (j + 1))), (0, .ref (tt_ad G 0)), (1, .int x1)] hC d_tb_forget_35 rfl (by rw [nI_succ]; rfl) (by decide) rfl ?_
    refine r_goto (tgt := 10) hC d_tb_forget_38 (by decide) ?_
    exact tt_cast [1, 2, 0] rfl rfl (ih (j + 1) (tt_pI st (9 + Int32.toNatClampNeg (nI j)) 4 31) (by omega) (by rw [tt_pI_ne (by omega)]; exact hb) (by simpa only [tb_forget_l10] using k))
def tb_forget (st : tt_St) : Int32 × tt_St := ((tt_I st 3 2), tt_pI (tb_forget_l10 (tt_I st 3 2) (Int32.toNatClampNeg (tt_I st 3 1)) (Int32.toNatClampNeg (tt_I st 3 1)) 0 st) 3 2 0)
set_option maxHeartbeats 4000000 in
set_option maxRecDepth 20000 in
theorem c_tb_forget (G : tt_G) (st : tt_St)  (hI : tb_ok st) : tt_C y_tb_forget prog_1_method_26_code 3 (some .int) 0 0 G [.ref (tt_ad G 0)] st (some (.int (tb_forget st).1)) (tb_forget st).2 := by
  refine tt_enter_si (T := (tb_forget st)) (by decide +kernel) (Nat.le_of_ble_eq_true rfl) (fun κ hC hR => ?_)
  rw [tb_forget]
  refine r_aload_n 0 hC d_tb_forget_0 rfl ?_
  refine r_getR (r := 3) hC d_tb_forget_1 fl_tb_19 rfl rfl rfl ?_
  refine r_getI hC d_tb_forget_4 fl_tb_155 rfl rfl ?_
  refine r_istore_n [(1, .int (tt_I st 3 2)), (0, .ref (tt_ad G 0))] hC d_tb_forget_7 rfl (by decide) rfl ?_
  refine r_iconst (v := 0) hC d_tb_forget_8 (by decide) ?_
  refine r_istore_n [(2, .int 0), (1, .int (tt_I st 3 2)), (0, .ref (tt_ad G 0))] hC d_tb_forget_9 rfl (by decide) rfl ?_
  refine tt_cast [2, 1, 0] rfl rfl (l_tb_forget_10 hC (tt_I st 3 2) (Int32.toNatClampNeg (tt_I st 3 1)) (tt_cle (hI.2.1 3 rfl).2) (Int32.toNatClampNeg (tt_I st 3 1)) 0 st (by omega) (tt_nIc (hI.2.1 3 rfl).1).symm ?_)
  refine r_aload_n 0 hC d_tb_forget_41 rfl ?_
  refine r_getR (r := 3) hC d_tb_forget_42 fl_tb_19 rfl rfl rfl ?_
  refine r_iconst (v := 0) hC d_tb_forget_45 (by decide) ?_
  refine r_putI hC d_tb_forget_46 fl_tb_155 fp_2_2 rfl rfl rfl rfl ?_
  refine r_iload_n 1 hC d_tb_forget_49 rfl ?_
  exact r_iret_si hC hR d_tb_forget_50 rfl
/-! TideTable.drawn(III)I -/
def tb_drawn_l53 (st : tt_St) (a1 : Int32) (a2 : Int32) (a3 : Int32) : Nat → Nat → Int32 → Int32 → Int32 → Int32 × Int32 × Int32
  | 0, j, x4, x5, x6 => (x4, x5, x6)
  | n + 1, j, x4, x5, x6 => (tb_drawn_l53 st a1 a2 a3 n (j + 1) (if (se_heightAt st 3 (((tb_nextSeed x6) >>> ((16 : Int32) &&& 31)) - ((tb_nextSeed x6) >>> ((16 : Int32) &&& 31)) / (tt_I st 3 1) * (tt_I st 3 1)) (((tb_nextSeed (tb_nextSeed x6)) >>> ((16 : Int32) &&& 31)) - ((tb_nextSeed (tb_nextSeed x6)) >>> ((16 : Int32) &&& 31)) / 1440 * 1440)) < (10 * (tt_I st (9 + Int32.toNatClampNeg (((tb_nextSeed x6) >>> ((16 : Int32) &&& 31)) - ((tb_nextSeed x6) >>> ((16 : Int32) &&& 31)) / (tt_I st 3 1) * (tt_I st 3 1))) 1)) then x4 else (x4 + 1) : Int32) (x5 + (se_heightAt st 3 (((tb_nextSeed x6) >>> ((16 : Int32) &&& 31)) - ((tb_nextSeed x6) >>> ((16 : Int32) &&& 31)) / (tt_I st 3 1) * (tt_I st 3 1)) (((tb_nextSeed (tb_nextSeed x6)) >>> ((16 : Int32) &&& 31)) - ((tb_nextSeed (tb_nextSeed x6)) >>> ((16 : Int32) &&& 31)) / 1440 * 1440))) (tb_nextSeed (tb_nextSeed x6)))
set_option maxHeartbeats 4000000 in
set_option maxRecDepth 20000 in
theorem l_tb_drawn_53 {α : Type} {G : tt_G} {κ : tt_X α} {T : α} (hC : tt_Cx G κ prog_1_method_27_code "TideTable" 10 5 118) (st : tt_St) (a1 : Int32) (a2 : Int32) (a3 : Int32) (hI : tb_ok st) (ht : 0 ≤ a1.toInt) (hz : ¬ tt_I st 3 1 = 0) : ∀ (n j : Nat) (x4 : Int32) (x5 : Int32) (x6 : Int32), j + n = (Int32.toNatClampNeg a1) → tt_V G κ T st 145 [(3, .int a3), (4, .int ((tb_drawn_l53 st a1 a2 a3 n j x4 x5 x6).1)), (5, .int ((tb_drawn_l53 st a1 a2 a3 n j x4 x5 x6).2.1)), (6, .int ((tb_drawn_l53 st a1 a2 a3 n j x4 x5 x6).2.2))] [] → tt_V G κ T st 53 [(0, .ref (tt_ad G 0)), (1, .int a1), (3, .int a3), (4, .int x4), (5, .int x5), (6, .int x6), (7, .int (nI j))] [] := by
  intro n
  induction n with
  | zero =>
    intro j x4 x5 x6 hj k
    refine r_iload 6 hC d_tb_drawn_53 rfl ?_
    refine r_iload_n 1 hC d_tb_drawn_55 rfl ?_
    refine t_icmp_ge (tgt := 145) hC d_tb_drawn_56 (by decide) (tt_end ht (by omega) (by have h9 := tt_rg a1; rw [tt_clamp] at hj; omega)) ?_
    exact tt_cast [2, 3, 4, 5] rfl rfl k
  | succ n ih =>
    intro j x4 x5 x6 hj k
    refine r_iload 6 hC d_tb_drawn_53 rfl ?_
    refine r_iload_n 1 hC d_tb_drawn_55 rfl ?_
    refine f_icmp_ge (tgt := 145) hC d_tb_drawn_56 (by decide) (tt_stay (by omega)) ?_
    refine r_iload 5 hC d_tb_drawn_59 rfl ?_
    refine r_callS (rest := []) (stk1 := [.int (tb_nextSeed x6)]) hC d_tb_drawn_61 (c_tb_nextSeed G st x6) mw_tb_nextSeed ms_tb_nextSeed ml_tb_158 rfl rfl rfl (Nat.le_of_ble_eq_true rfl) rfl ?_
    refine r_istore [(6, .int (tb_nextSeed x6)), (0, .ref (tt_ad G 0)), (1, .int a1), (3, .int a3), (4, .int x4), (5, .int x5), (7, .int (nI j))] hC d_tb_drawn_64 (by decide) rfl ?_
    refine r_iload 0 hC d_tb_drawn_66 rfl ?_
    refine r_bipush (v := 16) hC d_tb_drawn_68 (by decide) ?_
    refine r_ishr hC d_tb_drawn_70 ?_
    refine r_aload_n 1 hC d_tb_drawn_71 rfl ?_
    refine r_getR (r := 3) hC d_tb_drawn_72 fl_tb_19 rfl rfl rfl ?_
    refine r_getI hC d_tb_drawn_75 fl_tb_63 rfl rfl ?_
    refine r_irem hC d_tb_drawn_78 hz ?_
    refine r_istore [(8, .int (((tb_nextSeed x6) >>> ((16 : Int32) &&& 31)) - ((tb_nextSeed x6) >>> ((16 : Int32) &&& 31)) / (tt_I st 3 1) * (tt_I st 3 1))), (6, .int (tb_nextSeed x6)), (0, .ref (tt_ad G 0)), (1, .int a1), (3, .int a3), (4, .int x4), (5, .int x5), (7, .int (nI j))] hC d_tb_drawn_79 (by decide) rfl ?_
    refine r_iload 1 hC d_tb_drawn_81 rfl ?_
    refine r_callS (rest := []) (stk1 := [.int (tb_nextSeed (tb_nextSeed x6))]) hC d_tb_drawn_83 (c_tb_nextSeed G st (tb_nextSeed x6)) mw_tb_nextSeed ms_tb_nextSeed ml_tb_158 rfl rfl rfl (Nat.le_of_ble_eq_true rfl) rfl ?_
    refine r_istore [(6, .int (tb_nextSeed (tb_nextSeed x6))), (8, .int (((tb_nextSeed x6) >>> ((16 : Int32) &&& 31)) - ((tb_nextSeed x6) >>> ((16 : Int32) &&& 31)) / (tt_I st 3 1) * (tt_I st 3 1))), (0, .ref (tt_ad G 0)), (1, .int a1), (3, .int a3), (4, .int x4), (5, .int x5), (7, .int (nI j))] hC d_tb_drawn_86 (by decide) rfl ?_
    refine r_aload_n 2 hC d_tb_drawn_88 rfl ?_
    refine r_getR (r := 3) hC d_tb_drawn_89 fl_tb_19 rfl rfl rfl ?_
    refine r_iload 1 hC d_tb_drawn_92 rfl ?_
    refine r_iload 0 hC d_tb_drawn_94 rfl ?_
    refine r_bipush (v := 16) hC d_tb_drawn_96 (by decide) ?_
    refine r_ishr hC d_tb_drawn_98 ?_
    refine r_sipush (v := 1440) hC d_tb_drawn_99 (by decide) ?_
    refine r_irem hC d_tb_drawn_102 (by decide) ?_
    refine r_callV (o := 3) (rest := []) (stk1 := [.int (se_heightAt st 3 (((tb_nextSeed x6) >>> ((16 : Int32) &&& 31)) - ((tb_nextSeed x6) >>> ((16 : Int32) &&& 31)) / (tt_I st 3 1) * (tt_I st 3 1)) (((tb_nextSeed (tb_nextSeed x6)) >>> ((16 : Int32) &&& 31)) - ((tb_nextSeed (tb_nextSeed x6)) >>> ((16 : Int32) &&& 31)) / 1440 * 1440))]) hC d_tb_drawn_103 (c_se_heightAt G st 3 (((tb_nextSeed x6) >>> ((16 : Int32) &&& 31)) - ((tb_nextSeed x6) >>> ((16 : Int32) &&& 31)) / (tt_I st 3 1) * (tt_I st 3 1)) (((tb_nextSeed (tb_nextSeed x6)) >>> ((16 : Int32) &&& 31)) - ((tb_nextSeed (tb_nextSeed x6)) >>> ((16 : Int32) &&& 31)) / 1440 * 1440) rfl hI) mw_se_heightAt mi_se_heightAt mz_se_heightAt ml_tb_121 rfl rfl rfl rfl rfl (Nat.le_of_ble_eq_true rfl) rfl ?_
    refine r_istore [(9, .int (se_heightAt st 3 (((tb_nextSeed x6) >>> ((16 : Int32) &&& 31)) - ((tb_nextSeed x6) >>> ((16 : Int32) &&& 31)) / (tt_I st 3 1) * (tt_I st 3 1)) (((tb_nextSeed (tb_nextSeed x6)) >>> ((16 : Int32) &&& 31)) - ((tb_nextSeed (tb_nextSeed x6)) >>> ((16 : Int32) &&& 31)) / 1440 * 1440))), (6, .int (tb_nextSeed (tb_nextSeed x6))), (8, .int (((tb_nextSeed x6) >>> ((16 : Int32) &&& 31)) - ((tb_nextSeed x6) >>> ((16 : Int32) &&& 31)) / (tt_I st 3 1) * (tt_I st 3 1))), (0, .ref (tt_ad G 0)), (1, .int a1), (3, .int a3), (4, .int x4), (5, .int x5), (7, .int (nI j))] hC d_tb_drawn_106 (by decide) rfl ?_
    refine r_iload 0 hC d_tb_drawn_108 rfl ?_
    refine r_bipush (v := 10) hC d_tb_drawn_110 (by decide) ?_
    refine r_aload_n 3 hC d_tb_drawn_112 rfl ?_
    refine r_getR (r := 3) hC d_tb_drawn_113 fl_tb_19 rfl rfl rfl ?_
    refine r_getR (r := 5) hC d_tb_drawn_116 fl_tb_68 rfl rfl rfl ?_
    refine r_iload 2 hC d_tb_drawn_119 rfl ?_
    have hb_121 : vp_in (((tb_nextSeed x6) >>> ((16 : Int32) &&& 31)) - ((tb_nextSeed x6) >>> ((16 : Int32) &&& 31)) / (tt_I st 3 1) * (tt_I st 3 1)) 4 := (tb_draw_in hI hz)
    refine r_aald (r := (9 + Int32.toNatClampNeg (((tb_nextSeed x6) >>> ((16 : Int32) &&& 31)) - ((tb_nextSeed x6) >>> ((16 : Int32) &&& 31)) / (tt_I st 3 1) * (tt_I st 3 1)))) (C := "TideTable$Port") hC d_tb_drawn_121 rfl (by decide) rfl (by decide) (fun _ => rfl) rfl hb_121 rfl ?_
    refine r_getI hC d_tb_drawn_122 fl_tb_77 rfl (tt_ci_5 hb_121) ?_
    refine r_imul hC d_tb_drawn_125 ?_
    refine tt_join 132 [(0, .ref (tt_ad G 0)), (1, .int a1), (3, .int a3), (4, .int (if (se_heightAt st 3 (((tb_nextSeed x6) >>> ((16 : Int32) &&& 31)) - ((tb_nextSeed x6) >>> ((16 : Int32) &&& 31)) / (tt_I st 3 1) * (tt_I st 3 1)) (((tb_nextSeed (tb_nextSeed x6)) >>> ((16 : Int32) &&& 31)) - ((tb_nextSeed (tb_nextSeed x6)) >>> ((16 : Int32) &&& 31)) / 1440 * 1440)) < (10 * (tt_I st (9 + Int32.toNatClampNeg (((tb_nextSeed x6) >>> ((16 : Int32) &&& 31)) - ((tb_nextSeed x6) >>> ((16 : Int32) &&& 31)) / (tt_I st 3 1) * (tt_I st 3 1))) 1)) then x4 else (x4 + 1) : Int32)), (5, .int x5), (6, .int (tb_nextSeed (tb_nextSeed x6))), (7, .int (nI j)), (9, .int (se_heightAt st 3 (((tb_nextSeed x6) >>> ((16 : Int32) &&& 31)) - ((tb_nextSeed x6) >>> ((16 : Int32) &&& 31)) / (tt_I st 3 1) * (tt_I st 3 1)) (((tb_nextSeed (tb_nextSeed x6)) >>> ((16 : Int32) &&& 31)) - ((tb_nextSeed (tb_nextSeed x6)) >>> ((16 : Int32) &&& 31)) / 1440 * 1440)))] [] ?_ (fun kj_126 => ?_)
    ·
      refine r_iload 4 hC d_tb_drawn_132 rfl ?_
      refine r_iload 7 hC d_tb_drawn_134 rfl ?_
      refine r_iadd hC d_tb_drawn_136 ?_
      refine r_istore [(5, .int (x5 + (se_heightAt st 3 (((tb_nextSeed x6) >>> ((16 : Int32) &&& 31)) - ((tb_nextSeed x6) >>> ((16 : Int32) &&& 31)) / (tt_I st 3 1) * (tt_I st 3 1)) (((tb_nextSeed (tb_nextSeed x6)) >>> ((16 : Int32) &&& 31)) - ((tb_nextSeed (tb_nextSeed x6)) >>> ((16 : Int32) &&& 31)) / 1440 * 1440)))), (0, .ref (tt_ad G 0)), (1, .int a1), (3, .int a3), (4, .int (if (se_heightAt st 3 (((tb_nextSeed x6) >>> ((16 : Int32) &&& 31)) - ((tb_nextSeed x6) >>> ((16 : Int32) &&& 31)) / (tt_I st 3 1) * (tt_I st 3 1)) (((tb_nextSeed (tb_nextSeed x6)) >>> ((16 : Int32) &&& 31)) - ((tb_nextSeed (tb_nextSeed x6)) >>> ((16 : Int32) &&& 31)) / 1440 * 1440)) < (10 * (tt_I st (9 + Int32.toNatClampNeg (((tb_nextSeed x6) >>> ((16 : Int32) &&& 31)) - ((tb_nextSeed x6) >>> ((16 : Int32) &&& 31)) / (tt_I st 3 1) * (tt_I st 3 1))) 1)) then x4 else (x4 + 1) : Int32)), (6, .int (tb_nextSeed (tb_nextSeed x6))), (7, .int (nI j)), (9, .int (se_heightAt st 3 (((tb_nextSeed x6) >>> ((16 : Int32) &&& 31)) - ((tb_nextSeed x6) >>> ((16 : Int32) &&& 31)) / (tt_I st 3 1) * (tt_I st 3 1)) (((tb_nextSeed (tb_nextSeed x6)) >>> ((16 : Int32) &&& 31)) - ((tb_nextSeed (tb_nextSeed x6)) >>> ((16 : Int32) &&& 31)) / 1440 * 1440)))] hC d_tb_drawn_137 (by decide) rfl ?_
      refine r_iinc 6 (nI (j + 1)) [(7, .int (nI (j + 1))), (5, .int (x5 + (se_heightAt st 3 (((tb_nextSeed x6) >>> ((16 : Int32) &&& 31)) - ((tb_nextSeed x6) >>> ((16 : Int32) &&& 31)) / (tt_I st 3 1) * (tt_I st 3 1)) (((tb_nextSeed (tb_nextSeed x6)) >>> ((16 : Int32) &&& 31)) - ((tb_nextSeed (tb_nextSeed x6)) >>> ((16 : Int32) &&& 31)) / 1440 * 1440)))), (0, .ref (tt_ad G 0)), (1, .int a1), (3, .int a3), (4, .int (if (se_heightAt st 3 (((tb_nextSeed x6) >>> ((16 : Int32) &&& 31)) - ((tb_nextSeed x6) >>> ((16 : Int32) &&& 31)) / (tt_I st 3 1) * (tt_I st 3 1)) (((tb_nextSeed (tb_nextSeed x6)) >>> ((16 : Int32) &&& 31)) - ((tb_nextSeed (tb_nextSeed x6)) >>> ((16 : Int32) &&& 31)) / 1440 * 1440)) < (10 * (tt_I st (9 + Int32.toNatClampNeg (((tb_nextSeed x6) >>> ((16 : Int32) &&& 31)) - ((tb_nextSeed x6) >>> ((16 : Int32) &&& 31)) / (tt_I st 3 1) * (tt_I st 3 1))) 1)) then x4 else (x4 + 1) : Int32)), (6, .int (tb_nextSeed (tb_nextSeed x6))), (9, .int (se_heightAt st 3 (((tb_nextSeed x6) >>> ((16 : Int32) &&& 31)) - ((tb_nextSeed x6) >>> ((16 : Int32) &&& 31)) / (tt_I st 3 1) * (tt_I st 3 1)) (((tb_nextSeed (tb_nextSeed x6)) >>> ((16 : Int32) &&& 31)) - ((tb_nextSeed (tb_nextSeed x6)) >>> ((16 : Int32) &&& 31)) / 1440 * 1440)))] hC d_tb_drawn_139 rfl (by rw [nI_succ]; rfl) (by decide) rfl ?_
      refine r_goto (tgt := 53) hC d_tb_drawn_142 (by decide) ?_
      exact tt_cast [2, 3, 4, 5, 1, 6, 0] rfl rfl (ih (j + 1) (if (se_heightAt st 3 (((tb_nextSeed x6) >>> ((16 : Int32) &&& 31)) - ((tb_nextSeed x6) >>> ((16 : Int32) &&& 31)) / (tt_I st 3 1) * (tt_I st 3 1)) (((tb_nextSeed (tb_nextSeed x6)) >>> ((16 : Int32) &&& 31)) - ((tb_nextSeed (tb_nextSeed x6)) >>> ((16 : Int32) &&& 31)) / 1440 * 1440)) < (10 * (tt_I st (9 + Int32.toNatClampNeg (((tb_nextSeed x6) >>> ((16 : Int32) &&& 31)) - ((tb_nextSeed x6) >>> ((16 : Int32) &&& 31)) / (tt_I st 3 1) * (tt_I st 3 1))) 1)) then x4 else (x4 + 1) : Int32) (x5 + (se_heightAt st 3 (((tb_nextSeed x6) >>> ((16 : Int32) &&& 31)) - ((tb_nextSeed x6) >>> ((16 : Int32) &&& 31)) / (tt_I st 3 1) * (tt_I st 3 1)) (((tb_nextSeed (tb_nextSeed x6)) >>> ((16 : Int32) &&& 31)) - ((tb_nextSeed (tb_nextSeed x6)) >>> ((16 : Int32) &&& 31)) / 1440 * 1440))) (tb_nextSeed (tb_nextSeed x6)) (by omega) (by simpa only [tb_drawn_l53] using k))
    ·
      refine j_icmp_lt (tgt := 132) hC d_tb_drawn_126 (by decide) (fun c_126 => ?_) (fun c_126 => ?_)
      ·
        exact tt_cast [3, 4, 5, 6, 7, 1, 8, 0] (by simp only [if_pos c_126]; rfl) rfl kj_126
      ·
        refine r_iinc 6 (x4 + 1) [(4, .int (x4 + 1)), (9, .int (se_heightAt st 3 (((tb_nextSeed x6) >>> ((16 : Int32) &&& 31)) - ((tb_nextSeed x6) >>> ((16 : Int32) &&& 31)) / (tt_I st 3 1) * (tt_I st 3 1)) (((tb_nextSeed (tb_nextSeed x6)) >>> ((16 : Int32) &&& 31)) - ((tb_nextSeed (tb_nextSeed x6)) >>> ((16 : Int32) &&& 31)) / 1440 * 1440))), (6, .int (tb_nextSeed (tb_nextSeed x6))), (8, .int (((tb_nextSeed x6) >>> ((16 : Int32) &&& 31)) - ((tb_nextSeed x6) >>> ((16 : Int32) &&& 31)) / (tt_I st 3 1) * (tt_I st 3 1))), (0, .ref (tt_ad G 0)), (1, .int a1), (3, .int a3), (5, .int x5), (7, .int (nI j))] hC d_tb_drawn_129 rfl rfl (by decide) rfl ?_
        exact tt_cast [4, 5, 6, 0, 7, 2, 8, 1] (by simp only [if_neg c_126]; rfl) rfl kj_126
def tb_drawn (st : tt_St) (a1 : Int32) (a2 : Int32) (a3 : Int32) : Int32 := (if (tb_within a1 1 50) = 0 then (-10102) else (if a2 < 0 then (-10102) else (if (tb_within a3 0 2) = 0 then (-10102) else (if (tt_I st 3 1) = 0 then (-10103) else (if a3 = 0 then ((tb_drawn_l53 st a1 a2 a3 (Int32.toNatClampNeg a1) 0 0 0 a2).1) else (if a3 = 1 then ((tb_drawn_l53 st a1 a2 a3 (Int32.toNatClampNeg a1) 0 0 0 a2).2.1) else ((tb_drawn_l53 st a1 a2 a3 (Int32.toNatClampNeg a1) 0 0 0 a2).2.2)))))))
set_option maxHeartbeats 4000000 in
set_option maxRecDepth 20000 in
theorem c_tb_drawn (G : tt_G) (st : tt_St) (a1 : Int32) (a2 : Int32) (a3 : Int32) (hI : tb_ok st) : tt_C y_tb_drawn prog_1_method_27_code 10 (some .int) 5 118 G [.ref (tt_ad G 0), .int a1, .int a2, .int a3] st (some (.int (tb_drawn st a1 a2 a3))) st := by
  refine tt_enter_pi (T := (tb_drawn st a1 a2 a3)) (by decide +kernel) (Nat.le_of_ble_eq_true rfl) (fun κ hC hR => ?_)
  rw [tb_drawn]
  refine r_iload_n 1 hC d_tb_drawn_0 rfl ?_
  refine r_iconst (v := 1) hC d_tb_drawn_1 (by decide) ?_
  refine r_bipush (v := 50) hC d_tb_drawn_2 (by decide) ?_
  refine r_callS (rest := []) (stk1 := [.int (tb_within a1 1 50)]) hC d_tb_drawn_4 (c_tb_within G st a1 1 50) mw_tb_within ms_tb_within ml_tb_33 rfl rfl rfl (Nat.le_of_ble_eq_true rfl) rfl ?_
  refine r_if_eq (tgt := 23) hC d_tb_drawn_7 (by decide) (fun c_7 => ?_) (fun c_7 => ?_)
  ·
    refine r_sipush (v := (-10102)) hC d_tb_drawn_23 (by decide) ?_
    exact r_iret_pi hC hR d_tb_drawn_26 rfl
  ·
    refine r_iload_n 2 hC d_tb_drawn_10 rfl ?_
    refine r_if_lt (tgt := 23) hC d_tb_drawn_11 (by decide) (fun c_11 => ?_) (fun c_11 => ?_)
    ·
      refine r_sipush (v := (-10102)) hC d_tb_drawn_23 (by decide) ?_
      exact r_iret_pi hC hR d_tb_drawn_26 rfl
    ·
      refine r_iload_n 3 hC d_tb_drawn_14 rfl ?_
      refine r_iconst (v := 0) hC d_tb_drawn_15 (by decide) ?_
      refine r_iconst (v := 2) hC d_tb_drawn_16 (by decide) ?_
      refine r_callS (rest := []) (stk1 := [.int (tb_within a3 0 2)]) hC d_tb_drawn_17 (c_tb_within G st a3 0 2) mw_tb_within ms_tb_within ml_tb_33 rfl rfl rfl (Nat.le_of_ble_eq_true rfl) rfl ?_
      refine r_if_ne (tgt := 27) hC d_tb_drawn_20 (by decide) (fun c_20 => ?_) (fun c_20 => ?_)
      ·
        refine r_aload_n 0 hC d_tb_drawn_27 rfl ?_
        refine r_getR (r := 3) hC d_tb_drawn_28 fl_tb_19 rfl rfl rfl ?_
        refine r_getI hC d_tb_drawn_31 fl_tb_63 rfl rfl ?_
        refine r_if_ne (tgt := 41) hC d_tb_drawn_34 (by decide) (fun c_34 => ?_) (fun c_34 => ?_)
        ·
          refine r_iconst (v := 0) hC d_tb_drawn_41 (by decide) ?_
          refine r_istore [(4, .int 0), (0, .ref (tt_ad G 0)), (1, .int a1), (2, .int a2), (3, .int a3)] hC d_tb_drawn_42 (by decide) rfl ?_
          refine r_iconst (v := 0) hC d_tb_drawn_44 (by decide) ?_
          refine r_istore [(5, .int 0), (4, .int 0), (0, .ref (tt_ad G 0)), (1, .int a1), (2, .int a2), (3, .int a3)] hC d_tb_drawn_45 (by decide) rfl ?_
          refine r_iload_n 4 hC d_tb_drawn_47 rfl ?_
          refine r_istore [(6, .int a2), (5, .int 0), (4, .int 0), (0, .ref (tt_ad G 0)), (1, .int a1), (2, .int a2), (3, .int a3)] hC d_tb_drawn_48 (by decide) rfl ?_
          refine r_iconst (v := 0) hC d_tb_drawn_50 (by decide) ?_
          refine r_istore [(7, .int 0), (6, .int a2), (5, .int 0), (4, .int 0), (0, .ref (tt_ad G 0)), (1, .int a1), (2, .int a2), (3, .int a3)] hC d_tb_drawn_51 (by decide) rfl ?_
          refine tt_cast [4, 5, 7, 3, 2, 1, 0] rfl rfl (l_tb_drawn_53 hC st a1 a2 a3 hI (tb_dr_t c_7) c_34 (Int32.toNatClampNeg a1) 0 0 0 a2 (by omega)  ?_)
          refine r_iload_n 0 hC d_tb_drawn_145 rfl ?_
          refine r_if_ne (tgt := 154) hC d_tb_drawn_146 (by decide) (fun c_146 => ?_) (fun c_146 => ?_)
          ·
            refine r_iload_n 0 hC d_tb_drawn_154 rfl ?_
            refine r_iconst (v := 1) hC d_tb_drawn_155 (by decide) ?_
            refine r_icmp_ne (tgt := 164) hC d_tb_drawn_156 (by decide) (fun c_156 => ?_) (fun c_156 => ?_)
            ·
              refine r_iload 3 hC d_tb_drawn_164 rfl ?_
              exact r_iret_pi hC hR d_tb_drawn_166 rfl
            ·
              refine r_iload 2 hC d_tb_drawn_159 rfl ?_
              refine r_goto (tgt := 166) hC d_tb_drawn_161 (by decide) ?_
              exact r_iret_pi hC hR d_tb_drawn_166 rfl
          ·
            refine r_iload 1 hC d_tb_drawn_149 rfl ?_
            refine r_goto (tgt := 166) hC d_tb_drawn_151 (by decide) ?_
            exact r_iret_pi hC hR d_tb_drawn_166 rfl
        ·
          refine r_sipush (v := (-10103)) hC d_tb_drawn_37 (by decide) ?_
          exact r_iret_pi hC hR d_tb_drawn_40 rfl
      ·
        refine r_sipush (v := (-10102)) hC d_tb_drawn_23 (by decide) ?_
        exact r_iret_pi hC hR d_tb_drawn_26 rfl
/-! TideTable.withPort(JI)J -/
def tb_withPort_l6 (st : tt_St) (a1 : Int64) (a2 : Int32) : Nat → Nat → Int64 → Int64
  | 0, j, x4 => x4
  | n + 1, j, x4 => (tb_withPort_l6 st a1 a2 n (j + 1) (tb_with x4 (tb_port st a2 (nI j))))
set_option maxHeartbeats 4000000 in
set_option maxRecDepth 20000 in
theorem l_tb_withPort_6 {α : Type} {G : tt_G} {κ : tt_X α} {T : α} (hC : tt_Cx G κ prog_1_method_32_code "TideTable" 10 5 118) (st : tt_St) (a1 : Int64) (a2 : Int32) (hI : tb_ok st) (hp : vp_in a2 4) : ∀ (n j : Nat) (x4 : Int64), j + n = 7 → tt_V G κ T st 33 [(0, .ref (tt_ad G 0)), (3, .int a2), (4, .long (tb_withPort_l6 st a1 a2 n j x4))] [] → tt_V G κ T st 6 [(0, .ref (tt_ad G 0)), (3, .int a2), (4, .long x4), (6, .int (nI j))] [] := by
  intro n
  induction n with
  | zero =>
    intro j x4 hj k
    refine r_iload 3 hC d_tb_withPort_6 rfl ?_
    refine r_bipush (v := 6) hC d_tb_withPort_8 (by decide) ?_
    refine t_icmp_gt (tgt := 33) hC d_tb_withPort_10 (by decide) (nI_lt (a := 6) (by omega) (by omega)) ?_
    exact tt_cast [0, 1, 2] rfl rfl k
  | succ n ih =>
    intro j x4 hj k
    refine r_iload 3 hC d_tb_withPort_6 rfl ?_
    refine r_bipush (v := 6) hC d_tb_withPort_8 (by decide) ?_
    refine f_icmp_gt (tgt := 33) hC d_tb_withPort_10 (by decide) (nI_nlt (a := 6) (b := j) (by omega) (by omega)) ?_
    refine r_lload 2 hC d_tb_withPort_13 rfl ?_
    refine r_aload_n 0 hC d_tb_withPort_15 rfl ?_
    refine r_iload_n 1 hC d_tb_withPort_16 rfl ?_
    refine r_iload 3 hC d_tb_withPort_17 rfl ?_
    refine r_callV (o := 0) (rest := [.long x4]) (stk1 := [.int (tb_port st a2 (nI j)), .long x4]) hC d_tb_withPort_19 (c_tb_port G st a2 (nI j) hI) mw_tb_port mi_tb_port mz_tb_port ml_tb_185 rfl rfl rfl rfl rfl (Nat.le_of_ble_eq_true rfl) rfl ?_
    refine r_callS (rest := []) (stk1 := [.long (tb_with x4 (tb_port st a2 (nI j)))]) hC d_tb_withPort_22 (c_tb_with G st x4 (tb_port st a2 (nI j))) mw_tb_with ms_tb_with ml_tb_179 rfl rfl rfl (Nat.le_of_ble_eq_true rfl) rfl ?_
    refine r_lstore [(4, .long (tb_with x4 (tb_port st a2 (nI j)))), (0, .ref (tt_ad G 0)), (3, .int a2), (6, .int (nI j))] hC d_tb_withPort_25 (by decide) rfl ?_
    refine r_iinc 3 (nI (j + 1)) [(6, .int (nI (j + 1))), (4, .long (tb_with x4 (tb_port st a2 (nI j)))), (0, .ref (tt_ad G 0)), (3, .int a2)] hC d_tb_withPort_27 rfl (by rw [nI_succ]; rfl) (by decide) rfl ?_
    refine r_goto (tgt := 6) hC d_tb_withPort_30 (by decide) ?_
    exact tt_cast [2, 3, 1, 0] rfl rfl (ih (j + 1) (tb_with x4 (tb_port st a2 (nI j))) (by omega) (by simpa only [tb_withPort_l6] using k))
def tb_withPort_l56 (st : tt_St) (a1 : Int64) (a2 : Int32) (x6 : Int32) : Nat → Nat → Int64 → Int64
  | 0, j, x4 => x4
  | n + 1, j, x4 => (tb_withPort_l56 st a1 a2 x6 n (j + 1) (tb_with x4 (tb_wave st a2 x6 (nI j))))
set_option maxHeartbeats 4000000 in
set_option maxRecDepth 20000 in
theorem l_tb_withPort_56 {α : Type} {G : tt_G} {κ : tt_X α} {T : α} (hC : tt_Cx G κ prog_1_method_32_code "TideTable" 10 5 118) (st : tt_St) (a1 : Int64) (a2 : Int32) (x6 : Int32) (hI : tb_ok st) (hp : vp_in a2 4) : ∀ (n j : Nat) (x4 : Int64), j + n = 3 → tt_V G κ T st 84 [(0, .ref (tt_ad G 0)), (3, .int a2), (4, .long (tb_withPort_l56 st a1 a2 x6 n j x4)), (6, .int x6)] [] → tt_V G κ T st 56 [(0, .ref (tt_ad G 0)), (3, .int a2), (4, .long x4), (6, .int x6), (7, .int (nI j))] [] := by
  intro n
  induction n with
  | zero =>
    intro j x4 hj k
    refine r_iload 4 hC d_tb_withPort_56 rfl ?_
    refine r_iconst (v := 2) hC d_tb_withPort_58 (by decide) ?_
    refine t_icmp_gt (tgt := 84) hC d_tb_withPort_59 (by decide) (nI_lt (a := 2) (by omega) (by omega)) ?_
    exact tt_cast [0, 1, 2, 3] rfl rfl k
  | succ n ih =>
    intro j x4 hj k
    refine r_iload 4 hC d_tb_withPort_56 rfl ?_
    refine r_iconst (v := 2) hC d_tb_withPort_58 (by decide) ?_
    refine f_icmp_gt (tgt := 84) hC d_tb_withPort_59 (by decide) (nI_nlt (a := 2) (b := j) (by omega) (by omega)) ?_
    refine r_lload 2 hC d_tb_withPort_62 rfl ?_
    refine r_aload_n 0 hC d_tb_withPort_64 rfl ?_
    refine r_iload_n 1 hC d_tb_withPort_65 rfl ?_
    refine r_iload 3 hC d_tb_withPort_66 rfl ?_
    refine r_iload 4 hC d_tb_withPort_68 rfl ?_
    refine r_callV (o := 0) (rest := [.long x4]) (stk1 := [.int (tb_wave st a2 x6 (nI j)), .long x4]) hC d_tb_withPort_70 (c_tb_wave G st a2 x6 (nI j) hI) mw_tb_wave mi_tb_wave mz_tb_wave ml_tb_188 rfl rfl rfl rfl rfl (Nat.le_of_ble_eq_true rfl) rfl ?_
    refine r_callS (rest := []) (stk1 := [.long (tb_with x4 (tb_wave st a2 x6 (nI j)))]) hC d_tb_withPort_73 (c_tb_with G st x4 (tb_wave st a2 x6 (nI j))) mw_tb_with ms_tb_with ml_tb_179 rfl rfl rfl (Nat.le_of_ble_eq_true rfl) rfl ?_
    refine r_lstore [(4, .long (tb_with x4 (tb_wave st a2 x6 (nI j)))), (0, .ref (tt_ad G 0)), (3, .int a2), (6, .int x6), (7, .int (nI j))] hC d_tb_withPort_76 (by decide) rfl ?_
    refine r_iinc 4 (nI (j + 1)) [(7, .int (nI (j + 1))), (4, .long (tb_with x4 (tb_wave st a2 x6 (nI j)))), (0, .ref (tt_ad G 0)), (3, .int a2), (6, .int x6)] hC d_tb_withPort_78 rfl (by rw [nI_succ]; rfl) (by decide) rfl ?_
    refine r_goto (tgt := 56) hC d_tb_withPort_81 (by decide) ?_
    exact tt_cast [2, 3, 1, 4, 0] rfl rfl (ih (j + 1) (tb_with x4 (tb_wave st a2 x6 (nI j))) (by omega) (by simpa only [tb_withPort_l56] using k))
def tb_withPort_l36 (st : tt_St) (a1 : Int64) (a2 : Int32) : Nat → Nat → Int64 → Int64
  | 0, j, x4 => x4
  | n + 1, j, x4 => (tb_withPort_l36 st a1 a2 n (j + 1) (tb_withPort_l56 st a1 a2 (nI j) 3 0 x4))
set_option maxHeartbeats 4000000 in
set_option maxRecDepth 20000 in
theorem l_tb_withPort_36 {α : Type} {G : tt_G} {κ : tt_X α} {T : α} (hC : tt_Cx G κ prog_1_method_32_code "TideTable" 10 5 118) (st : tt_St) (a1 : Int64) (a2 : Int32) (hI : tb_ok st) (hp : vp_in a2 4) (hN : (Int32.toNatClampNeg (tt_I st (9 + Int32.toNatClampNeg a2) 6)) ≤ 3) : ∀ (n j : Nat) (x4 : Int64), j + n = (Int32.toNatClampNeg (tt_I st (9 + Int32.toNatClampNeg a2) 6)) → tt_V G κ T st 90 [(0, .ref (tt_ad G 0)), (3, .int a2), (4, .long (tb_withPort_l36 st a1 a2 n j x4))] [] → tt_V G κ T st 36 [(0, .ref (tt_ad G 0)), (3, .int a2), (4, .long x4), (6, .int (nI j))] [] := by
  intro n
  induction n with
  | zero =>
    intro j x4 hj k
    refine r_iload 3 hC d_tb_withPort_36 rfl ?_
    refine r_aload_n 0 hC d_tb_withPort_38 rfl ?_
    refine r_getR (r := 3) hC d_tb_withPort_39 fl_tb_19 rfl rfl rfl ?_
    refine r_getR (r := 5) hC d_tb_withPort_42 fl_tb_68 rfl rfl rfl ?_
    refine r_iload_n 1 hC d_tb_withPort_45 rfl ?_
    have hb_46 : vp_in a2 4 := hp
    refine r_aald (r := (9 + Int32.toNatClampNeg a2)) (C := "TideTable$Port") hC d_tb_withPort_46 rfl (by decide) rfl (by decide) (fun _ => rfl) rfl hb_46 rfl ?_
    refine r_getI hC d_tb_withPort_47 fl_tb_86 rfl (tt_ci_5 hb_46) ?_
    refine t_icmp_ge (tgt := 90) hC d_tb_withPort_50 (by decide) (tt_end (hI.1 _ (tt_ci_5 hp)).1 (by omega) (by omega)) ?_
    exact tt_cast [0, 1, 2] rfl rfl k
  | succ n ih =>
    intro j x4 hj k
    refine r_iload 3 hC d_tb_withPort_36 rfl ?_
    refine r_aload_n 0 hC d_tb_withPort_38 rfl ?_
    refine r_getR (r := 3) hC d_tb_withPort_39 fl_tb_19 rfl rfl rfl ?_
    refine r_getR (r := 5) hC d_tb_withPort_42 fl_tb_68 rfl rfl rfl ?_
    refine r_iload_n 1 hC d_tb_withPort_45 rfl ?_
    have hb_46 : vp_in a2 4 := hp
    refine r_aald (r := (9 + Int32.toNatClampNeg a2)) (C := "TideTable$Port") hC d_tb_withPort_46 rfl (by decide) rfl (by decide) (fun _ => rfl) rfl hb_46 rfl ?_
    refine r_getI hC d_tb_withPort_47 fl_tb_86 rfl (tt_ci_5 hb_46) ?_
    refine f_icmp_ge (tgt := 90) hC d_tb_withPort_50 (by decide) (tt_stay (by omega)) ?_
    refine r_iconst (v := 0) hC d_tb_withPort_53 (by decide) ?_
    refine r_istore [(7, .int 0), (0, .ref (tt_ad G 0)), (3, .int a2), (4, .long x4), (6, .int (nI j))] hC d_tb_withPort_54 (by decide) rfl ?_
    refine tt_cast [1, 2, 3, 4, 0] rfl rfl (l_tb_withPort_56 hC st a1 a2 (nI j) hI hp 3 0 x4 (by omega)  ?_)
    refine r_iinc 3 (nI (j + 1)) [(6, .int (nI (j + 1))), (0, .ref (tt_ad G 0)), (3, .int a2), (4, .long (tb_withPort_l56 st a1 a2 (nI j) 3 0 x4))] hC d_tb_withPort_84 rfl (by rw [nI_succ]; rfl) (by decide) rfl ?_
    refine r_goto (tgt := 36) hC d_tb_withPort_87 (by decide) ?_
    exact tt_cast [1, 2, 3, 0] rfl rfl (ih (j + 1) (tb_withPort_l56 st a1 a2 (nI j) 3 0 x4) (by omega) (by simpa only [tb_withPort_l36] using k))
def tb_withPort_l103 (st : tt_St) (a1 : Int64) (a2 : Int32) : Nat → Nat → Int64 → Int64
  | 0, j, x4 => x4
  | n + 1, j, x4 => (tb_withPort_l103 st a1 a2 n (j + 1) (tb_with (tb_with x4 (po_sumAt st (9 + Int32.toNatClampNeg a2) (tt_sv 2 (Int32.toNatClampNeg (nI j))))) (se_heightAt st 3 a2 (tt_sv 2 (Int32.toNatClampNeg (nI j))))))
set_option maxHeartbeats 4000000 in
set_option maxRecDepth 20000 in
theorem l_tb_withPort_103 {α : Type} {G : tt_G} {κ : tt_X α} {T : α} (hC : tt_Cx G κ prog_1_method_32_code "TideTable" 10 5 118) (st : tt_St) (a1 : Int64) (a2 : Int32) (hI : tb_ok st) (hp : vp_in a2 4) : ∀ (n j : Nat) (x4 : Int64), j + n = 6 → tt_V G κ T st 161 [(4, .long (tb_withPort_l103 st a1 a2 n j x4))] [] → tt_V G κ T st 103 [(0, .ref (tt_ad G 0)), (3, .int a2), (4, .long x4), (6, .ref (tt_sa G 2)), (7, .int 6), (8, .int (nI j))] [] := by
  intro n
  induction n with
  | zero =>
    intro j x4 hj k
    refine r_iload 5 hC d_tb_withPort_103 rfl ?_
    refine r_iload 4 hC d_tb_withPort_105 rfl ?_
    refine t_icmp_ge (tgt := 161) hC d_tb_withPort_107 (by decide) (nI_le (a := 6) (by omega) (by omega)) ?_
    exact tt_cast [2] rfl rfl k
  | succ n ih =>
    intro j x4 hj k
    refine r_iload 5 hC d_tb_withPort_103 rfl ?_
    refine r_iload 4 hC d_tb_withPort_105 rfl ?_
    refine f_icmp_ge (tgt := 161) hC d_tb_withPort_107 (by decide) (nI_ge (a := j) (b := 6) (by omega) (by omega)) ?_
    refine r_aload 3 hC d_tb_withPort_110 rfl ?_
    refine r_iload 5 hC d_tb_withPort_112 rfl ?_
    refine r_tald hC d_tb_withPort_114 (by decide) (show vp_in (nI j) 6 from vp_in_nI (by omega) (by omega)) ?_
    refine r_istore [(9, .int (tt_sv 2 (Int32.toNatClampNeg (nI j)))), (0, .ref (tt_ad G 0)), (3, .int a2), (4, .long x4), (6, .ref (tt_sa G 2)), (7, .int 6), (8, .int (nI j))] hC d_tb_withPort_115 (by decide) rfl ?_
    refine r_lload 3 hC d_tb_withPort_117 rfl ?_
    refine r_aload_n 1 hC d_tb_withPort_119 rfl ?_
    refine r_getR (r := 3) hC d_tb_withPort_120 fl_tb_19 rfl rfl rfl ?_
    refine r_getR (r := 5) hC d_tb_withPort_123 fl_tb_68 rfl rfl rfl ?_
    refine r_iload_n 2 hC d_tb_withPort_126 rfl ?_
    have hb_127 : vp_in a2 4 := hp
    refine r_aald (r := (9 + Int32.toNatClampNeg a2)) (C := "TideTable$Port") hC d_tb_withPort_127 rfl (by decide) rfl (by decide) (fun _ => rfl) rfl hb_127 rfl ?_
    refine r_iload 0 hC d_tb_withPort_128 rfl ?_
    refine r_callV (o := (9 + Int32.toNatClampNeg a2)) (rest := [.long x4]) (stk1 := [.int (po_sumAt st (9 + Int32.toNatClampNeg a2) (tt_sv 2 (Int32.toNatClampNeg (nI j)))), .long x4]) hC d_tb_withPort_130 (c_po_sumAt G st (9 + Int32.toNatClampNeg a2) (tt_sv 2 (Int32.toNatClampNeg (nI j))) (tt_ci_5 hb_127) hI) mw_po_sumAt mi_po_sumAt mz_po_sumAt ml_tb_118 (tt_ci_5 hb_127) rfl rfl rfl rfl (Nat.le_of_ble_eq_true rfl) rfl ?_
    refine r_callS (rest := []) (stk1 := [.long (tb_with x4 (po_sumAt st (9 + Int32.toNatClampNeg a2) (tt_sv 2 (Int32.toNatClampNeg (nI j)))))]) hC d_tb_withPort_133 (c_tb_with G st x4 (po_sumAt st (9 + Int32.toNatClampNeg a2) (tt_sv 2 (Int32.toNatClampNeg (nI j))))) mw_tb_with ms_tb_with ml_tb_179 rfl rfl rfl (Nat.le_of_ble_eq_true rfl) rfl ?_
    refine r_lstore [(4, .long (tb_with x4 (po_sumAt st (9 + Int32.toNatClampNeg a2) (tt_sv 2 (Int32.toNatClampNeg (nI j)))))), (9, .int (tt_sv 2 (Int32.toNatClampNeg (nI j)))), (0, .ref (tt_ad G 0)), (3, .int a2), (6, .ref (tt_sa G 2)), (7, .int 6), (8, .int (nI j))] hC d_tb_withPort_136 (by decide) rfl ?_
    refine r_lload 0 hC d_tb_withPort_138 rfl ?_
    refine r_aload_n 2 hC d_tb_withPort_140 rfl ?_
    refine r_getR (r := 3) hC d_tb_withPort_141 fl_tb_19 rfl rfl rfl ?_
    refine r_iload_n 3 hC d_tb_withPort_144 rfl ?_
    refine r_iload 1 hC d_tb_withPort_145 rfl ?_
    refine r_callV (o := 3) (rest := [.long (tb_with x4 (po_sumAt st (9 + Int32.toNatClampNeg a2) (tt_sv 2 (Int32.toNatClampNeg (nI j)))))]) (stk1 := [.int (se_heightAt st 3 a2 (tt_sv 2 (Int32.toNatClampNeg (nI j)))), .long (tb_with x4 (po_sumAt st (9 + Int32.toNatClampNeg a2) (tt_sv 2 (Int32.toNatClampNeg (nI j)))))]) hC d_tb_withPort_147 (c_se_heightAt G st 3 a2 (tt_sv 2 (Int32.toNatClampNeg (nI j))) rfl hI) mw_se_heightAt mi_se_heightAt mz_se_heightAt ml_tb_121 rfl rfl rfl rfl rfl (Nat.le_of_ble_eq_true rfl) rfl ?_
    refine r_callS (rest := []) (stk1 := [.long (tb_with (tb_with x4 (po_sumAt st (9 + Int32.toNatClampNeg a2) (tt_sv 2 (Int32.toNatClampNeg (nI j))))) (se_heightAt st 3 a2 (tt_sv 2 (Int32.toNatClampNeg (nI j)))))]) hC d_tb_withPort_150 (c_tb_with G st (tb_with x4 (po_sumAt st (9 + Int32.toNatClampNeg a2) (tt_sv 2 (Int32.toNatClampNeg (nI j))))) (se_heightAt st 3 a2 (tt_sv 2 (Int32.toNatClampNeg (nI j))))) mw_tb_with ms_tb_with ml_tb_179 rfl rfl rfl (Nat.le_of_ble_eq_true rfl) rfl ?_
    refine r_lstore [(4, .long (tb_with (tb_with x4 (po_sumAt st (9 + Int32.toNatClampNeg a2) (tt_sv 2 (Int32.toNatClampNeg (nI j))))) (se_heightAt st 3 a2 (tt_sv 2 (Int32.toNatClampNeg (nI j)))))), (9, .int (tt_sv 2 (Int32.toNatClampNeg (nI j)))), (0, .ref (tt_ad G 0)), (3, .int a2), (6, .ref (tt_sa G 2)), (7, .int 6), (8, .int (nI j))] hC d_tb_withPort_153 (by decide) rfl ?_
    refine r_iinc 6 (nI (j + 1)) [(8, .int (nI (j + 1))), (4, .long (tb_with (tb_with x4 (po_sumAt st (9 + Int32.toNatClampNeg a2) (tt_sv 2 (Int32.toNatClampNeg (nI j))))) (se_heightAt st 3 a2 (tt_sv 2 (Int32.toNatClampNeg (nI j)))))), (9, .int (tt_sv 2 (Int32.toNatClampNeg (nI j)))), (0, .ref (tt_ad G 0)), (3, .int a2), (6, .ref (tt_sa G 2)), (7, .int 6)] hC d_tb_withPort_155 rfl (by rw [nI_succ]; rfl) (by decide) rfl ?_
    refine r_goto (tgt := 103) hC d_tb_withPort_158 (by decide) ?_
    exact tt_cast [3, 4, 1, 5, 6, 0] rfl rfl (ih (j + 1) (tb_with (tb_with x4 (po_sumAt st (9 + Int32.toNatClampNeg a2) (tt_sv 2 (Int32.toNatClampNeg (nI j))))) (se_heightAt st 3 a2 (tt_sv 2 (Int32.toNatClampNeg (nI j))))) (by omega) (by simpa only [tb_withPort_l103] using k))
def tb_withPort (st : tt_St) (a1 : Int64) (a2 : Int32) : Int64 := (tb_withPort_l103 st a1 a2 6 0 (tb_withPort_l36 st a1 a2 (Int32.toNatClampNeg (tt_I st (9 + Int32.toNatClampNeg a2) 6)) 0 (tb_withPort_l6 st a1 a2 7 0 a1)))
set_option maxHeartbeats 4000000 in
set_option maxRecDepth 20000 in
theorem c_tb_withPort (G : tt_G) (st : tt_St) (a1 : Int64) (a2 : Int32) (hI : tb_ok st) (hp : vp_in a2 4) : tt_C y_tb_withPort prog_1_method_32_code 10 (some .long) 5 118 G [.ref (tt_ad G 0), .long a1, .int a2] st (some (.long (tb_withPort st a1 a2))) st := by
  refine tt_enter_pl (T := (tb_withPort st a1 a2)) (by decide +kernel) (Nat.le_of_ble_eq_true rfl) (fun κ hC hR => ?_)
  rw [tb_withPort]
  refine r_lload_n 1 hC d_tb_withPort_0 rfl ?_
  refine r_lstore [(4, .long a1), (0, .ref (tt_ad G 0)), (1, .long a1), (3, .int a2)] hC d_tb_withPort_1 (by decide) rfl ?_
  refine r_iconst (v := 0) hC d_tb_withPort_3 (by decide) ?_
  refine r_istore [(6, .int 0), (4, .long a1), (0, .ref (tt_ad G 0)), (1, .long a1), (3, .int a2)] hC d_tb_withPort_4 (by decide) rfl ?_
  refine tt_cast [2, 4, 1, 0] rfl rfl (l_tb_withPort_6 hC st a1 a2 hI hp 7 0 a1 (by omega)  ?_)
  refine r_iconst (v := 0) hC d_tb_withPort_33 (by decide) ?_
  refine r_istore [(6, .int 0), (0, .ref (tt_ad G 0)), (3, .int a2), (4, .long (tb_withPort_l6 st a1 a2 7 0 a1))] hC d_tb_withPort_34 (by decide) rfl ?_
  refine tt_cast [1, 2, 3, 0] rfl rfl (l_tb_withPort_36 hC st a1 a2 hI hp (tt_cle (hI.1 _ (tt_ci_5 hp)).2) (Int32.toNatClampNeg (tt_I st (9 + Int32.toNatClampNeg a2) 6)) 0 (tb_withPort_l6 st a1 a2 7 0 a1) (by omega)  ?_)
  refine r_gets (j := 2) hC d_tb_withPort_90 (by decide) gs_tb_192 ?_
  refine r_astore [(6, .ref (tt_sa G 2)), (0, .ref (tt_ad G 0)), (3, .int a2), (4, .long (tb_withPort_l36 st a1 a2 (Int32.toNatClampNeg (tt_I st (9 + Int32.toNatClampNeg a2) 6)) 0 (tb_withPort_l6 st a1 a2 7 0 a1)))] hC d_tb_withPort_93 (by decide) rfl ?_
  refine r_aload 0 hC d_tb_withPort_95 rfl ?_
  refine r_tlen (v := 6) hC d_tb_withPort_97 (by decide) (by decide) ?_
  refine r_istore [(7, .int 6), (6, .ref (tt_sa G 2)), (0, .ref (tt_ad G 0)), (3, .int a2), (4, .long (tb_withPort_l36 st a1 a2 (Int32.toNatClampNeg (tt_I st (9 + Int32.toNatClampNeg a2) 6)) 0 (tb_withPort_l6 st a1 a2 7 0 a1)))] hC d_tb_withPort_98 (by decide) rfl ?_
  refine r_iconst (v := 0) hC d_tb_withPort_100 (by decide) ?_
  refine r_istore [(8, .int 0), (7, .int 6), (6, .ref (tt_sa G 2)), (0, .ref (tt_ad G 0)), (3, .int a2), (4, .long (tb_withPort_l36 st a1 a2 (Int32.toNatClampNeg (tt_I st (9 + Int32.toNatClampNeg a2) 6)) 0 (tb_withPort_l6 st a1 a2 7 0 a1)))] hC d_tb_withPort_101 (by decide) rfl ?_
  refine tt_cast [3, 4, 5, 2, 1, 0] rfl rfl (l_tb_withPort_103 hC st a1 a2 hI hp 6 0 (tb_withPort_l36 st a1 a2 (Int32.toNatClampNeg (tt_I st (9 + Int32.toNatClampNeg a2) 6)) 0 (tb_withPort_l6 st a1 a2 7 0 a1)) (by omega)  ?_)
  refine r_lload 0 hC d_tb_withPort_161 rfl ?_
  exact r_lret_pl hC hR d_tb_withPort_163
/-! TideTable.digest()J -/
def tb_digest_l6 (st : tt_St) : Nat → Nat → Int64 → Int64
  | 0, j, x1 => x1
  | n + 1, j, x1 => (tb_digest_l6 st n (j + 1) (tb_withPort st x1 (nI j)))
set_option maxHeartbeats 4000000 in
set_option maxRecDepth 20000 in
theorem l_tb_digest_6 {α : Type} {G : tt_G} {κ : tt_X α} {T : α} (hC : tt_Cx G κ prog_1_method_31_code "TideTable" 4 7 162) (st : tt_St) (hI : tb_ok st) (hN : (Int32.toNatClampNeg (tt_I st 3 1)) ≤ 4) : ∀ (n j : Nat) (x1 : Int64), j + n = (Int32.toNatClampNeg (tt_I st 3 1)) → tt_V G κ T st 30 [(0, .ref (tt_ad G 0)), (1, .long (tb_digest_l6 st n j x1))] [] → tt_V G κ T st 6 [(0, .ref (tt_ad G 0)), (1, .long x1), (3, .int (nI j))] [] := by
  intro n
  induction n with
  | zero =>
    intro j x1 hj k
    refine r_iload_n 2 hC d_tb_digest_6 rfl ?_
    refine r_aload_n 0 hC d_tb_digest_7 rfl ?_
    refine r_getR (r := 3) hC d_tb_digest_8 fl_tb_19 rfl rfl rfl ?_
    refine r_getI hC d_tb_digest_11 fl_tb_63 rfl rfl ?_
    refine t_icmp_ge (tgt := 30) hC d_tb_digest_14 (by decide) (tt_end (hI.2.1 3 rfl).1 (by omega) (by omega)) ?_
    exact tt_cast [0, 1] rfl rfl k
  | succ n ih =>
    intro j x1 hj k
    refine r_iload_n 2 hC d_tb_digest_6 rfl ?_
    refine r_aload_n 0 hC d_tb_digest_7 rfl ?_
    refine r_getR (r := 3) hC d_tb_digest_8 fl_tb_19 rfl rfl rfl ?_
    refine r_getI hC d_tb_digest_11 fl_tb_63 rfl rfl ?_
    refine f_icmp_ge (tgt := 30) hC d_tb_digest_14 (by decide) (tt_stay (by omega)) ?_
    refine r_aload_n 0 hC d_tb_digest_17 rfl ?_
    refine r_lload_n 1 hC d_tb_digest_18 rfl ?_
    refine r_iload_n 2 hC d_tb_digest_19 rfl ?_
    refine r_callV (o := 0) (rest := []) (stk1 := [.long (tb_withPort st x1 (nI j))]) hC d_tb_digest_20 (c_tb_withPort G st x1 (nI j) hI (vp_in_nI (by omega) (by omega))) mw_tb_withPort mi_tb_withPort mz_tb_withPort ml_tb_175 rfl rfl rfl rfl rfl (Nat.le_of_ble_eq_true rfl) rfl ?_
    refine r_lstore_n [(1, .long (tb_withPort st x1 (nI j))), (0, .ref (tt_ad G 0)), (3, .int (nI j))] hC d_tb_digest_23 rfl (by decide) rfl ?_
    refine r_iinc 2 (nI (j + 1)) [(3, .int (nI (j + 1))), (1, .long (tb_withPort st x1 (nI j))), (0, .ref (tt_ad G 0))] hC d_tb_digest_24 rfl (by rw [nI_succ]; rfl) (by decide) rfl ?_
    refine r_goto (tgt := 6) hC d_tb_digest_27 (by decide) ?_
    exact tt_cast [2, 1, 0] rfl rfl (ih (j + 1) (tb_withPort st x1 (nI j)) (by omega) (by simpa only [tb_digest_l6] using k))
def tb_digest_l32 (st : tt_St) : Nat → Nat → Int64 → Int64
  | 0, j, x1 => x1
  | n + 1, j, x1 => (tb_digest_l32 st n (j + 1) (tb_with x1 (tt_A st 2 (Int32.toNatClampNeg (nI j)))))
set_option maxHeartbeats 4000000 in
set_option maxRecDepth 20000 in
theorem l_tb_digest_32 {α : Type} {G : tt_G} {κ : tt_X α} {T : α} (hC : tt_Cx G κ prog_1_method_31_code "TideTable" 4 7 162) (st : tt_St) (hI : tb_ok st) (hN : (Int32.toNatClampNeg (tt_I st 1 1)) ≤ 96) : ∀ (n j : Nat) (x1 : Int64), j + n = (Int32.toNatClampNeg (tt_I st 1 1)) → tt_V G κ T st 63 [(0, .ref (tt_ad G 0)), (1, .long (tb_digest_l32 st n j x1))] [] → tt_V G κ T st 32 [(0, .ref (tt_ad G 0)), (1, .long x1), (3, .int (nI j))] [] := by
  intro n
  induction n with
  | zero =>
    intro j x1 hj k
    refine r_iload_n 2 hC d_tb_digest_32 rfl ?_
    refine r_aload_n 0 hC d_tb_digest_33 rfl ?_
    refine r_getR (r := 1) hC d_tb_digest_34 fl_tb_12 rfl rfl rfl ?_
    refine r_getI hC d_tb_digest_37 fl_tb_37 rfl rfl ?_
    refine t_icmp_ge (tgt := 63) hC d_tb_digest_40 (by decide) (tt_end hI.2.2.1 (by omega) (by omega)) ?_
    exact tt_cast [0, 1] rfl rfl k
  | succ n ih =>
    intro j x1 hj k
    refine r_iload_n 2 hC d_tb_digest_32 rfl ?_
    refine r_aload_n 0 hC d_tb_digest_33 rfl ?_
    refine r_getR (r := 1) hC d_tb_digest_34 fl_tb_12 rfl rfl rfl ?_
    refine r_getI hC d_tb_digest_37 fl_tb_37 rfl rfl ?_
    refine f_icmp_ge (tgt := 63) hC d_tb_digest_40 (by decide) (tt_stay (by omega)) ?_
    refine r_lload_n 1 hC d_tb_digest_43 rfl ?_
    refine r_aload_n 0 hC d_tb_digest_44 rfl ?_
    refine r_getR (r := 1) hC d_tb_digest_45 fl_tb_12 rfl rfl rfl ?_
    refine r_getR (r := 2) hC d_tb_digest_48 fl_tb_41 rfl rfl rfl ?_
    refine r_iload_n 2 hC d_tb_digest_51 rfl ?_
    refine r_iald (n := 96) hC d_tb_digest_52 rfl (by decide) rfl rfl (vp_in_nI (by omega) (by omega)) ?_
    refine r_callS (rest := []) (stk1 := [.long (tb_with x1 (tt_A st 2 (Int32.toNatClampNeg (nI j))))]) hC d_tb_digest_53 (c_tb_with G st x1 (tt_A st 2 (Int32.toNatClampNeg (nI j)))) mw_tb_with ms_tb_with ml_tb_179 rfl rfl rfl (Nat.le_of_ble_eq_true rfl) rfl ?_
    refine r_lstore_n [(1, .long (tb_with x1 (tt_A st 2 (Int32.toNatClampNeg (nI j))))), (0, .ref (tt_ad G 0)), (3, .int (nI j))] hC d_tb_digest_56 rfl (by decide) rfl ?_
    refine r_iinc 2 (nI (j + 1)) [(3, .int (nI (j + 1))), (1, .long (tb_with x1 (tt_A st 2 (Int32.toNatClampNeg (nI j))))), (0, .ref (tt_ad G 0))] hC d_tb_digest_57 rfl (by rw [nI_succ]; rfl) (by decide) rfl ?_
    refine r_goto (tgt := 32) hC d_tb_digest_60 (by decide) ?_
    exact tt_cast [2, 1, 0] rfl rfl (ih (j + 1) (tb_with x1 (tt_A st 2 (Int32.toNatClampNeg (nI j)))) (by omega) (by simpa only [tb_digest_l32] using k))
def tb_digest_l65 (st : tt_St) : Nat → Nat → Int64 → Int64
  | 0, j, x1 => x1
  | n + 1, j, x1 => (tb_digest_l65 st n (j + 1) (tb_with x1 (tb_count st (nI j))))
set_option maxHeartbeats 4000000 in
set_option maxRecDepth 20000 in
theorem l_tb_digest_65 {α : Type} {G : tt_G} {κ : tt_X α} {T : α} (hC : tt_Cx G κ prog_1_method_31_code "TideTable" 4 7 162) (st : tt_St) (hI : tb_ok st) : ∀ (n j : Nat) (x1 : Int64), j + n = 7 → tt_V G κ T st 87 [(1, .long (tb_digest_l65 st n j x1))] [] → tt_V G κ T st 65 [(0, .ref (tt_ad G 0)), (1, .long x1), (3, .int (nI j))] [] := by
  intro n
  induction n with
  | zero =>
    intro j x1 hj k
    refine r_iload_n 2 hC d_tb_digest_65 rfl ?_
    refine r_bipush (v := 6) hC d_tb_digest_66 (by decide) ?_
    refine t_icmp_gt (tgt := 87) hC d_tb_digest_68 (by decide) (nI_lt (a := 6) (by omega) (by omega)) ?_
    exact tt_cast [1] rfl rfl k
  | succ n ih =>
    intro j x1 hj k
    refine r_iload_n 2 hC d_tb_digest_65 rfl ?_
    refine r_bipush (v := 6) hC d_tb_digest_66 (by decide) ?_
    refine f_icmp_gt (tgt := 87) hC d_tb_digest_68 (by decide) (nI_nlt (a := 6) (b := j) (by omega) (by omega)) ?_
    refine r_lload_n 1 hC d_tb_digest_71 rfl ?_
    refine r_aload_n 0 hC d_tb_digest_72 rfl ?_
    refine r_iload_n 2 hC d_tb_digest_73 rfl ?_
    refine r_callV (o := 0) (rest := [.long x1]) (stk1 := [.int (tb_count st (nI j)), .long x1]) hC d_tb_digest_74 (c_tb_count G st (nI j) hI) mw_tb_count mi_tb_count mz_tb_count ml_tb_182 rfl rfl rfl rfl rfl (Nat.le_of_ble_eq_true rfl) rfl ?_
    refine r_callS (rest := []) (stk1 := [.long (tb_with x1 (tb_count st (nI j)))]) hC d_tb_digest_77 (c_tb_with G st x1 (tb_count st (nI j))) mw_tb_with ms_tb_with ml_tb_179 rfl rfl rfl (Nat.le_of_ble_eq_true rfl) rfl ?_
    refine r_lstore_n [(1, .long (tb_with x1 (tb_count st (nI j)))), (0, .ref (tt_ad G 0)), (3, .int (nI j))] hC d_tb_digest_80 rfl (by decide) rfl ?_
    refine r_iinc 2 (nI (j + 1)) [(3, .int (nI (j + 1))), (1, .long (tb_with x1 (tb_count st (nI j)))), (0, .ref (tt_ad G 0))] hC d_tb_digest_81 rfl (by rw [nI_succ]; rfl) (by decide) rfl ?_
    refine r_goto (tgt := 65) hC d_tb_digest_84 (by decide) ?_
    exact tt_cast [2, 1, 0] rfl rfl (ih (j + 1) (tb_with x1 (tb_count st (nI j))) (by omega) (by simpa only [tb_digest_l65] using k))
def tb_digest (st : tt_St) : Int64 := (tb_digest_l65 st 7 0 (tb_digest_l32 st (Int32.toNatClampNeg (tt_I st 1 1)) 0 (tb_digest_l6 st (Int32.toNatClampNeg (tt_I st 3 1)) 0 1423)))
set_option maxHeartbeats 4000000 in
set_option maxRecDepth 20000 in
theorem c_tb_digest (G : tt_G) (st : tt_St)  (hI : tb_ok st) : tt_C y_tb_digest prog_1_method_31_code 4 (some .long) 7 162 G [.ref (tt_ad G 0)] st (some (.long (tb_digest st))) st := by
  refine tt_enter_pl (T := (tb_digest st)) (by decide +kernel) (Nat.le_of_ble_eq_true rfl) (fun κ hC hR => ?_)
  rw [tb_digest]
  refine r_ldc2 hC d_tb_digest_0 k_tb_173 ?_
  refine r_lstore_n [(1, .long 1423), (0, .ref (tt_ad G 0))] hC d_tb_digest_3 rfl (by decide) rfl ?_
  refine r_iconst (v := 0) hC d_tb_digest_4 (by decide) ?_
  refine r_istore_n [(3, .int 0), (1, .long 1423), (0, .ref (tt_ad G 0))] hC d_tb_digest_5 rfl (by decide) rfl ?_
  refine tt_cast [2, 1, 0] rfl rfl (l_tb_digest_6 hC st hI (tt_cle (hI.2.1 3 rfl).2) (Int32.toNatClampNeg (tt_I st 3 1)) 0 1423 (by omega)  ?_)
  refine r_iconst (v := 0) hC d_tb_digest_30 (by decide) ?_
  refine r_istore_n [(3, .int 0), (0, .ref (tt_ad G 0)), (1, .long (tb_digest_l6 st (Int32.toNatClampNeg (tt_I st 3 1)) 0 1423))] hC d_tb_digest_31 rfl (by decide) rfl ?_
  refine tt_cast [1, 2, 0] rfl rfl (l_tb_digest_32 hC st hI (tt_cle hI.2.2.2) (Int32.toNatClampNeg (tt_I st 1 1)) 0 (tb_digest_l6 st (Int32.toNatClampNeg (tt_I st 3 1)) 0 1423) (by omega)  ?_)
  refine r_iconst (v := 0) hC d_tb_digest_63 (by decide) ?_
  refine r_istore_n [(3, .int 0), (0, .ref (tt_ad G 0)), (1, .long (tb_digest_l32 st (Int32.toNatClampNeg (tt_I st 1 1)) 0 (tb_digest_l6 st (Int32.toNatClampNeg (tt_I st 3 1)) 0 1423)))] hC d_tb_digest_64 rfl (by decide) rfl ?_
  refine tt_cast [1, 2, 0] rfl rfl (l_tb_digest_65 hC st hI 7 0 (tb_digest_l32 st (Int32.toNatClampNeg (tt_I st 1 1)) 0 (tb_digest_l6 st (Int32.toNatClampNeg (tt_I st 3 1)) 0 1423)) (by omega)  ?_)
  refine r_lload_n 0 hC d_tb_digest_87 rfl ?_
  exact r_lret_pl hC hR d_tb_digest_88

/-! TideTableModel.letter(I)I -/
def mo_letter (st : tt_St) (a1 : Int32) : Int32 × tt_St := (if (mo_within a1 32 126) = 0 then ((-10102), st) else (if (tt_I st 49 13) = 96 then ((-10104), st) else ((tt_I (tt_pI (tt_pA st 60 (Int32.toNatClampNeg (tt_I st 49 13)) (vp_nar .byte (Int8.toInt32 (Int32.toInt8 a1)))) 49 13 ((tt_I (tt_pA st 60 (Int32.toNatClampNeg (tt_I st 49 13)) (vp_nar .byte (Int8.toInt32 (Int32.toInt8 a1)))) 49 13) + 1)) 49 13), tt_pI (tt_pA st 60 (Int32.toNatClampNeg (tt_I st 49 13)) (vp_nar .byte (Int8.toInt32 (Int32.toInt8 a1)))) 49 13 ((tt_I (tt_pA st 60 (Int32.toNatClampNeg (tt_I st 49 13)) (vp_nar .byte (Int8.toInt32 (Int32.toInt8 a1)))) 49 13) + 1))))
set_option maxHeartbeats 4000000 in
set_option maxRecDepth 20000 in
theorem c_mo_letter (G : tt_G) (st : tt_St) (a1 : Int32) (hl : mo_pl st) : tt_C y_mo_letter prog_7_method_8_code 2 (some .int) 1 22 G [.ref (tt_ad G 49), .int a1] st (some (.int (mo_letter st a1).1)) (mo_letter st a1).2 := by
  refine tt_enter (α := Int32 × tt_St) (mk := fun r => (some (.int r.1), r.2)) (T := (mo_letter st a1)) (by decide +kernel) (Nat.le_of_ble_eq_true rfl) (fun κ hC hR => ?_)
  rw [mo_letter]
  refine r_iload_n 1 hC d_mo_letter_0 rfl ?_
  refine r_bipush (v := 32) hC d_mo_letter_1 (by decide) ?_
  refine r_bipush (v := 126) hC d_mo_letter_3 (by decide) ?_
  refine r_callS (rest := []) (stk1 := [.int (mo_within a1 32 126)]) hC d_mo_letter_5 (c_mo_within G st a1 32 126) mw_mo_within ms_mo_within ml_mo_93 rfl rfl rfl (Nat.le_of_ble_eq_true rfl) rfl ?_
  refine r_if_ne (tgt := 15) hC d_mo_letter_8 (by decide) (fun c_8 => ?_) (fun c_8 => ?_)
  ·
    refine r_aload_n 0 hC d_mo_letter_15 rfl ?_
    refine r_getI hC d_mo_letter_16 fl_mo_97 rfl rfl ?_
    refine r_bipush (v := 96) hC d_mo_letter_19 (by decide) ?_
    refine r_icmp_ne (tgt := 28) hC d_mo_letter_21 (by decide) (fun c_21 => ?_) (fun c_21 => ?_)
    ·
      refine r_aload_n 0 hC d_mo_letter_28 rfl ?_
      refine r_getR (r := 60) hC d_mo_letter_29 fl_mo_40 rfl rfl rfl ?_
      refine r_aload_n 0 hC d_mo_letter_32 rfl ?_
      refine r_getI hC d_mo_letter_33 fl_mo_97 rfl rfl ?_
      refine r_iload_n 1 hC d_mo_letter_36 rfl ?_
      refine r_i2b hC d_mo_letter_37 ?_
      refine r_bast (n := 96) hC d_mo_letter_38 rfl (by decide) rfl rfl (mo_pl_in hl c_21) ?_
      refine r_aload_n 0 hC d_mo_letter_39 rfl ?_
      refine r_dup hC d_mo_letter_40 rfl ?_
      refine r_getI hC d_mo_letter_41 fl_mo_97 rfl rfl ?_
      refine r_iconst (v := 1) hC d_mo_letter_44 (by decide) ?_
      refine r_iadd hC d_mo_letter_45 ?_
      refine r_putI hC d_mo_letter_46 fl_mo_97 fp_5_13 rfl rfl rfl rfl ?_
      refine r_aload_n 0 hC d_mo_letter_49 rfl ?_
      refine r_getI hC d_mo_letter_50 fl_mo_97 rfl rfl ?_
      exact r_iret hC hR d_mo_letter_53 rfl rfl
    ·
      refine r_sipush (v := (-10104)) hC d_mo_letter_24 (by decide) ?_
      exact r_iret hC hR d_mo_letter_27 rfl rfl
  ·
    refine r_sipush (v := (-10102)) hC d_mo_letter_11 (by decide) ?_
    exact r_iret hC hR d_mo_letter_14 rfl rfl
/-! TideTableModel.blank()I -/
def mo_blank (st : tt_St) : Int32 × tt_St := ((tt_I st 49 13), tt_pI st 49 13 0)
set_option maxHeartbeats 4000000 in
set_option maxRecDepth 20000 in
theorem c_mo_blank (G : tt_G) (st : tt_St)   : tt_C y_mo_blank prog_7_method_9_code 2 (some .int) 0 0 G [.ref (tt_ad G 49)] st (some (.int (mo_blank st).1)) (mo_blank st).2 := by
  refine tt_enter (α := Int32 × tt_St) (mk := fun r => (some (.int r.1), r.2)) (T := (mo_blank st)) (by decide +kernel) (Nat.le_of_ble_eq_true rfl) (fun κ hC hR => ?_)
  rw [mo_blank]
  refine r_aload_n 0 hC d_mo_blank_0 rfl ?_
  refine r_getI hC d_mo_blank_1 fl_mo_97 rfl rfl ?_
  refine r_istore_n [(1, .int (tt_I st 49 13)), (0, .ref (tt_ad G 49))] hC d_mo_blank_4 rfl (by decide) rfl ?_
  refine r_aload_n 1 hC d_mo_blank_5 rfl ?_
  refine r_iconst (v := 0) hC d_mo_blank_6 (by decide) ?_
  refine r_putI hC d_mo_blank_7 fl_mo_97 fp_5_13 rfl rfl rfl rfl ?_
  refine r_iload_n 0 hC d_mo_blank_10 rfl ?_
  exact r_iret hC hR d_mo_blank_11 rfl rfl
/-! TideTableModel.readNumber(III)I -/
def mo_readNumber (st : tt_St) (a1 : Int32) (a2 : Int32) (a3 : Int32) : Int32 × tt_St := (if (mo_isFigure st a1) = 0 then (a1, tt_pI st 49 16 1) else (if ((mo_at st a1) - 48) ≤ (a3 / 10) then (if (mo_isFigure (tt_pI st 49 24 (((10 * ((mo_at st a1) - 48)) + (mo_at st (a1 + 1))) - 48)) (a1 + 1)) = 0 then ((a1 + 1), tt_pI (tt_pI st 49 24 (((10 * ((mo_at st a1) - 48)) + (mo_at st (a1 + 1))) - 48)) 49 16 1) else (if (mo_within (tt_I (tt_pI st 49 24 (((10 * ((mo_at st a1) - 48)) + (mo_at st (a1 + 1))) - 48)) 49 24) a2 a3) = 0 then ((a1 + 1), tt_pI (tt_pI st 49 24 (((10 * ((mo_at st a1) - 48)) + (mo_at st (a1 + 1))) - 48)) 49 16 1) else ((a1 + 2), tt_pI st 49 24 (((10 * ((mo_at st a1) - 48)) + (mo_at st (a1 + 1))) - 48)))) else (a1, tt_pI st 49 16 1)))
set_option maxHeartbeats 4000000 in
set_option maxRecDepth 20000 in
theorem c_mo_readNumber (G : tt_G) (st : tt_St) (a1 : Int32) (a2 : Int32) (a3 : Int32) (hl : mo_pl st) (hk : 0 ≤ a1.toInt ∧ a1.toInt ≤ 1000) : tt_C y_mo_readNumber prog_7_method_13_code 4 (some .int) 2 43 G [.ref (tt_ad G 49), .int a1, .int a2, .int a3] st (some (.int (mo_readNumber st a1 a2 a3).1)) (mo_readNumber st a1 a2 a3).2 := by
  refine tt_enter (α := Int32 × tt_St) (mk := fun r => (some (.int r.1), r.2)) (T := (mo_readNumber st a1 a2 a3)) (by decide +kernel) (Nat.le_of_ble_eq_true rfl) (fun κ hC hR => ?_)
  rw [mo_readNumber]
  refine r_aload_n 0 hC d_mo_readNumber_0 rfl ?_
  refine r_iload_n 1 hC d_mo_readNumber_1 rfl ?_
  refine r_callV (o := 49) (rest := []) (stk1 := [.int (mo_isFigure st a1)]) hC d_mo_readNumber_2 (c_mo_isFigure G st a1 hl hk.1) mw_mo_isFigure mi_mo_isFigure mz_mo_isFigure ml_mo_104 rfl rfl rfl rfl rfl (Nat.le_of_ble_eq_true rfl) rfl ?_
  refine r_if_eq (tgt := 23) hC d_mo_readNumber_5 (by decide) (fun c_5 => ?_) (fun c_5 => ?_)
  ·
    refine r_aload_n 0 hC d_mo_readNumber_23 rfl ?_
    refine r_iconst (v := 1) hC d_mo_readNumber_24 (by decide) ?_
    refine r_putI hC d_mo_readNumber_25 fl_mo_108 fp_5_16 rfl rfl rfl rfl ?_
    refine r_iload_n 1 hC d_mo_readNumber_28 rfl ?_
    exact r_iret hC hR d_mo_readNumber_29 rfl rfl
  ·
    refine r_aload_n 0 hC d_mo_readNumber_8 rfl ?_
    refine r_iload_n 1 hC d_mo_readNumber_9 rfl ?_
    refine r_callV (o := 49) (rest := []) (stk1 := [.int (mo_at st a1)]) hC d_mo_readNumber_10 (c_mo_at G st a1 hl hk.1) mw_mo_at mi_mo_at mz_mo_at ml_mo_101 rfl rfl rfl rfl rfl (Nat.le_of_ble_eq_true rfl) rfl ?_
    refine r_bipush (v := 48) hC d_mo_readNumber_13 (by decide) ?_
    refine r_isub hC d_mo_readNumber_15 ?_
    refine r_iload_n 3 hC d_mo_readNumber_16 rfl ?_
    refine r_bipush (v := 10) hC d_mo_readNumber_17 (by decide) ?_
    refine r_idiv hC d_mo_readNumber_19 (by decide) ?_
    refine r_icmp_le (tgt := 30) hC d_mo_readNumber_20 (by decide) (fun c_20 => ?_) (fun c_20 => ?_)
    ·
      refine r_aload_n 0 hC d_mo_readNumber_30 rfl ?_
      refine r_bipush (v := 10) hC d_mo_readNumber_31 (by decide) ?_
      refine r_aload_n 0 hC d_mo_readNumber_33 rfl ?_
      refine r_iload_n 1 hC d_mo_readNumber_34 rfl ?_
      refine r_callV (o := 49) (rest := [.int 10, .ref (tt_ad G 49)]) (stk1 := [.int (mo_at st a1), .int 10, .ref (tt_ad G 49)]) hC d_mo_readNumber_35 (c_mo_at G st a1 hl hk.1) mw_mo_at mi_mo_at mz_mo_at ml_mo_101 rfl rfl rfl rfl rfl (Nat.le_of_ble_eq_true rfl) rfl ?_
      refine r_bipush (v := 48) hC d_mo_readNumber_38 (by decide) ?_
      refine r_isub hC d_mo_readNumber_40 ?_
      refine r_imul hC d_mo_readNumber_41 ?_
      refine r_aload_n 0 hC d_mo_readNumber_42 rfl ?_
      refine r_iload_n 1 hC d_mo_readNumber_43 rfl ?_
      refine r_iconst (v := 1) hC d_mo_readNumber_44 (by decide) ?_
      refine r_iadd hC d_mo_readNumber_45 ?_
      refine r_callV (o := 49) (rest := [.int (10 * ((mo_at st a1) - 48)), .ref (tt_ad G 49)]) (stk1 := [.int (mo_at st (a1 + 1)), .int (10 * ((mo_at st a1) - 48)), .ref (tt_ad G 49)]) hC d_mo_readNumber_46 (c_mo_at G st (a1 + 1) hl (tt_k1 hk)) mw_mo_at mi_mo_at mz_mo_at ml_mo_101 rfl rfl rfl rfl rfl (Nat.le_of_ble_eq_true rfl) rfl ?_
      refine r_iadd hC d_mo_readNumber_49 ?_
      refine r_bipush (v := 48) hC d_mo_readNumber_50 (by decide) ?_
      refine r_isub hC d_mo_readNumber_52 ?_
      refine r_putI hC d_mo_readNumber_53 fl_mo_112 fp_5_24 rfl rfl rfl rfl ?_
      refine r_aload_n 0 hC d_mo_readNumber_56 rfl ?_
      refine r_iload_n 1 hC d_mo_readNumber_57 rfl ?_
      refine r_iconst (v := 1) hC d_mo_readNumber_58 (by decide) ?_
      refine r_iadd hC d_mo_readNumber_59 ?_
      refine r_callV (o := 49) (rest := []) (stk1 := [.int (mo_isFigure (tt_pI st 49 24 (((10 * ((mo_at st a1) - 48)) + (mo_at st (a1 + 1))) - 48)) (a1 + 1))]) hC d_mo_readNumber_60 (c_mo_isFigure G (tt_pI st 49 24 (((10 * ((mo_at st a1) - 48)) + (mo_at st (a1 + 1))) - 48)) (a1 + 1) hl (tt_k1 hk)) mw_mo_isFigure mi_mo_isFigure mz_mo_isFigure ml_mo_104 rfl rfl rfl rfl rfl (Nat.le_of_ble_eq_true rfl) rfl ?_
      refine r_if_eq (tgt := 78) hC d_mo_readNumber_63 (by decide) (fun c_63 => ?_) (fun c_63 => ?_)
      ·
        refine r_aload_n 0 hC d_mo_readNumber_78 rfl ?_
        refine r_iconst (v := 1) hC d_mo_readNumber_79 (by decide) ?_
        refine r_putI hC d_mo_readNumber_80 fl_mo_108 fp_5_16 rfl rfl rfl rfl ?_
        refine r_iload_n 1 hC d_mo_readNumber_83 rfl ?_
        refine r_iconst (v := 1) hC d_mo_readNumber_84 (by decide) ?_
        refine r_iadd hC d_mo_readNumber_85 ?_
        exact r_iret hC hR d_mo_readNumber_86 rfl rfl
      ·
        refine r_aload_n 0 hC d_mo_readNumber_66 rfl ?_
        refine r_getI hC d_mo_readNumber_67 fl_mo_112 rfl rfl ?_
        refine r_iload_n 2 hC d_mo_readNumber_70 rfl ?_
        refine r_iload_n 3 hC d_mo_readNumber_71 rfl ?_
        refine r_callS (rest := []) (stk1 := [.int (mo_within (tt_I (tt_pI st 49 24 (((10 * ((mo_at st a1) - 48)) + (mo_at st (a1 + 1))) - 48)) 49 24) a2 a3)]) hC d_mo_readNumber_72 (c_mo_within G (tt_pI st 49 24 (((10 * ((mo_at st a1) - 48)) + (mo_at st (a1 + 1))) - 48)) (tt_I (tt_pI st 49 24 (((10 * ((mo_at st a1) - 48)) + (mo_at st (a1 + 1))) - 48)) 49 24) a2 a3) mw_mo_within ms_mo_within ml_mo_93 rfl rfl rfl (Nat.le_of_ble_eq_true rfl) rfl ?_
        refine r_if_ne (tgt := 87) hC d_mo_readNumber_75 (by decide) (fun c_75 => ?_) (fun c_75 => ?_)
        ·
          refine r_iload_n 1 hC d_mo_readNumber_87 rfl ?_
          refine r_iconst (v := 2) hC d_mo_readNumber_88 (by decide) ?_
          refine r_iadd hC d_mo_readNumber_89 ?_
          exact r_iret hC hR d_mo_readNumber_90 rfl rfl
        ·
          refine r_aload_n 0 hC d_mo_readNumber_78 rfl ?_
          refine r_iconst (v := 1) hC d_mo_readNumber_79 (by decide) ?_
          refine r_putI hC d_mo_readNumber_80 fl_mo_108 fp_5_16 rfl rfl rfl rfl ?_
          refine r_iload_n 1 hC d_mo_readNumber_83 rfl ?_
          refine r_iconst (v := 1) hC d_mo_readNumber_84 (by decide) ?_
          refine r_iadd hC d_mo_readNumber_85 ?_
          exact r_iret hC hR d_mo_readNumber_86 rfl rfl
    ·
      refine r_aload_n 0 hC d_mo_readNumber_23 rfl ?_
      refine r_iconst (v := 1) hC d_mo_readNumber_24 (by decide) ?_
      refine r_putI hC d_mo_readNumber_25 fl_mo_108 fp_5_16 rfl rfl rfl rfl ?_
      refine r_iload_n 1 hC d_mo_readNumber_28 rfl ?_
      exact r_iret hC hR d_mo_readNumber_29 rfl rfl
/-! TideTableModel.mean(II)I -/
def mo_mean (st : tt_St) (a1 : Int32) (a2 : Int32) : Int32 × tt_St := (if (mo_isPort st a1) = 0 then ((-10101), st) else (if (mo_isNumber a2) = 0 then ((-10102), st) else ((tt_A st 51 (Int32.toNatClampNeg a1)), tt_pA st 51 (Int32.toNatClampNeg a1) a2)))
set_option maxHeartbeats 4000000 in
set_option maxRecDepth 20000 in
theorem c_mo_mean (G : tt_G) (st : tt_St) (a1 : Int32) (a2 : Int32) (hI : mo_ok st) : tt_C y_mo_mean prog_7_method_55_code 4 (some .int) 2 43 G [.ref (tt_ad G 49), .int a1, .int a2] st (some (.int (mo_mean st a1 a2).1)) (mo_mean st a1 a2).2 := by
  refine tt_enter (α := Int32 × tt_St) (mk := fun r => (some (.int r.1), r.2)) (T := (mo_mean st a1 a2)) (by decide +kernel) (Nat.le_of_ble_eq_true rfl) (fun κ hC hR => ?_)
  rw [mo_mean]
  refine r_aload_n 0 hC d_mo_mean_0 rfl ?_
  refine r_iload_n 1 hC d_mo_mean_1 rfl ?_
  refine r_callV (o := 49) (rest := []) (stk1 := [.int (mo_isPort st a1)]) hC d_mo_mean_2 (c_mo_isPort G st a1) mw_mo_isPort mi_mo_isPort mz_mo_isPort ml_mo_147 rfl rfl rfl rfl rfl (Nat.le_of_ble_eq_true rfl) rfl ?_
  refine r_if_ne (tgt := 12) hC d_mo_mean_5 (by decide) (fun c_5 => ?_) (fun c_5 => ?_)
  ·
    refine r_iload_n 2 hC d_mo_mean_12 rfl ?_
    refine r_callS (rest := []) (stk1 := [.int (mo_isNumber a2)]) hC d_mo_mean_13 (c_mo_isNumber G st a2) mw_mo_isNumber ms_mo_isNumber ml_mo_226 rfl rfl rfl (Nat.le_of_ble_eq_true rfl) rfl ?_
    refine r_if_ne (tgt := 23) hC d_mo_mean_16 (by decide) (fun c_16 => ?_) (fun c_16 => ?_)
    ·
      refine r_aload_n 0 hC d_mo_mean_23 rfl ?_
      refine r_getR (r := 51) hC d_mo_mean_24 fl_mo_13 rfl rfl rfl ?_
      refine r_iload_n 1 hC d_mo_mean_27 rfl ?_
      refine r_iald (n := 4) hC d_mo_mean_28 rfl (by decide) rfl rfl (mo_isPort_in hI c_5) ?_
      refine r_istore_n [(3, .int (tt_A st 51 (Int32.toNatClampNeg a1))), (0, .ref (tt_ad G 49)), (1, .int a1), (2, .int a2)] hC d_mo_mean_29 rfl (by decide) rfl ?_
      refine r_aload_n 1 hC d_mo_mean_30 rfl ?_
      refine r_getR (r := 51) hC d_mo_mean_31 fl_mo_13 rfl rfl rfl ?_
      refine r_iload_n 2 hC d_mo_mean_34 rfl ?_
      refine r_iload_n 3 hC d_mo_mean_35 rfl ?_
      refine r_iast (n := 4) hC d_mo_mean_36 rfl (by decide) rfl rfl (mo_isPort_in hI c_5) ?_
      refine r_iload_n 0 hC d_mo_mean_37 rfl ?_
      exact r_iret hC hR d_mo_mean_38 rfl rfl
    ·
      refine r_sipush (v := (-10102)) hC d_mo_mean_19 (by decide) ?_
      exact r_iret hC hR d_mo_mean_22 rfl rfl
  ·
    refine r_sipush (v := (-10101)) hC d_mo_mean_8 (by decide) ?_
    exact r_iret hC hR d_mo_mean_11 rfl rfl
/-! TideTableModel.mark(II)I -/
def mo_mark (st : tt_St) (a1 : Int32) (a2 : Int32) : Int32 × tt_St := (if (mo_isPort st a1) = 0 then ((-10101), st) else (if (mo_isNumber a2) = 0 then ((-10102), st) else ((tt_A st 52 (Int32.toNatClampNeg a1)), tt_pA st 52 (Int32.toNatClampNeg a1) a2)))
set_option maxHeartbeats 4000000 in
set_option maxRecDepth 20000 in
theorem c_mo_mark (G : tt_G) (st : tt_St) (a1 : Int32) (a2 : Int32) (hI : mo_ok st) : tt_C y_mo_mark prog_7_method_56_code 4 (some .int) 2 43 G [.ref (tt_ad G 49), .int a1, .int a2] st (some (.int (mo_mark st a1 a2).1)) (mo_mark st a1 a2).2 := by
  refine tt_enter (α := Int32 × tt_St) (mk := fun r => (some (.int r.1), r.2)) (T := (mo_mark st a1 a2)) (by decide +kernel) (Nat.le_of_ble_eq_true rfl) (fun κ hC hR => ?_)
  rw [mo_mark]
  refine r_aload_n 0 hC d_mo_mark_0 rfl ?_
  refine r_iload_n 1 hC d_mo_mark_1 rfl ?_
  refine r_callV (o := 49) (rest := []) (stk1 := [.int (mo_isPort st a1)]) hC d_mo_mark_2 (c_mo_isPort G st a1) mw_mo_isPort mi_mo_isPort mz_mo_isPort ml_mo_147 rfl rfl rfl rfl rfl (Nat.le_of_ble_eq_true rfl) rfl ?_
  refine r_if_ne (tgt := 12) hC d_mo_mark_5 (by decide) (fun c_5 => ?_) (fun c_5 => ?_)
  ·
    refine r_iload_n 2 hC d_mo_mark_12 rfl ?_
    refine r_callS (rest := []) (stk1 := [.int (mo_isNumber a2)]) hC d_mo_mark_13 (c_mo_isNumber G st a2) mw_mo_isNumber ms_mo_isNumber ml_mo_226 rfl rfl rfl (Nat.le_of_ble_eq_true rfl) rfl ?_
    refine r_if_ne (tgt := 23) hC d_mo_mark_16 (by decide) (fun c_16 => ?_) (fun c_16 => ?_)
    ·
      refine r_aload_n 0 hC d_mo_mark_23 rfl ?_
      refine r_getR (r := 52) hC d_mo_mark_24 fl_mo_16 rfl rfl rfl ?_
      refine r_iload_n 1 hC d_mo_mark_27 rfl ?_
      refine r_iald (n := 4) hC d_mo_mark_28 rfl (by decide) rfl rfl (mo_isPort_in hI c_5) ?_
      refine r_istore_n [(3, .int (tt_A st 52 (Int32.toNatClampNeg a1))), (0, .ref (tt_ad G 49)), (1, .int a1), (2, .int a2)] hC d_mo_mark_29 rfl (by decide) rfl ?_
      refine r_aload_n 1 hC d_mo_mark_30 rfl ?_
      refine r_getR (r := 52) hC d_mo_mark_31 fl_mo_16 rfl rfl rfl ?_
      refine r_iload_n 2 hC d_mo_mark_34 rfl ?_
      refine r_iload_n 3 hC d_mo_mark_35 rfl ?_
      refine r_iast (n := 4) hC d_mo_mark_36 rfl (by decide) rfl rfl (mo_isPort_in hI c_5) ?_
      refine r_iload_n 0 hC d_mo_mark_37 rfl ?_
      exact r_iret hC hR d_mo_mark_38 rfl rfl
    ·
      refine r_sipush (v := (-10102)) hC d_mo_mark_19 (by decide) ?_
      exact r_iret hC hR d_mo_mark_22 rfl rfl
  ·
    refine r_sipush (v := (-10101)) hC d_mo_mark_8 (by decide) ?_
    exact r_iret hC hR d_mo_mark_11 rfl rfl
/-! TideTableModel.ratio(II)I -/
def mo_ratio (st : tt_St) (a1 : Int32) (a2 : Int32) : Int32 × tt_St := (if (mo_isPort st a1) = 0 then ((-10101), st) else (if (mo_isNumber a2) = 0 then ((-10102), st) else ((tt_A st 53 (Int32.toNatClampNeg a1)), tt_pA st 53 (Int32.toNatClampNeg a1) a2)))
set_option maxHeartbeats 4000000 in
set_option maxRecDepth 20000 in
theorem c_mo_ratio (G : tt_G) (st : tt_St) (a1 : Int32) (a2 : Int32) (hI : mo_ok st) : tt_C y_mo_ratio prog_7_method_57_code 4 (some .int) 2 43 G [.ref (tt_ad G 49), .int a1, .int a2] st (some (.int (mo_ratio st a1 a2).1)) (mo_ratio st a1 a2).2 := by
  refine tt_enter (α := Int32 × tt_St) (mk := fun r => (some (.int r.1), r.2)) (T := (mo_ratio st a1 a2)) (by decide +kernel) (Nat.le_of_ble_eq_true rfl) (fun κ hC hR => ?_)
  rw [mo_ratio]
  refine r_aload_n 0 hC d_mo_ratio_0 rfl ?_
  refine r_iload_n 1 hC d_mo_ratio_1 rfl ?_
  refine r_callV (o := 49) (rest := []) (stk1 := [.int (mo_isPort st a1)]) hC d_mo_ratio_2 (c_mo_isPort G st a1) mw_mo_isPort mi_mo_isPort mz_mo_isPort ml_mo_147 rfl rfl rfl rfl rfl (Nat.le_of_ble_eq_true rfl) rfl ?_
  refine r_if_ne (tgt := 12) hC d_mo_ratio_5 (by decide) (fun c_5 => ?_) (fun c_5 => ?_)
  ·
    refine r_iload_n 2 hC d_mo_ratio_12 rfl ?_
    refine r_callS (rest := []) (stk1 := [.int (mo_isNumber a2)]) hC d_mo_ratio_13 (c_mo_isNumber G st a2) mw_mo_isNumber ms_mo_isNumber ml_mo_226 rfl rfl rfl (Nat.le_of_ble_eq_true rfl) rfl ?_
    refine r_if_ne (tgt := 23) hC d_mo_ratio_16 (by decide) (fun c_16 => ?_) (fun c_16 => ?_)
    ·
      refine r_aload_n 0 hC d_mo_ratio_23 rfl ?_
      refine r_getR (r := 53) hC d_mo_ratio_24 fl_mo_19 rfl rfl rfl ?_
      refine r_iload_n 1 hC d_mo_ratio_27 rfl ?_
      refine r_iald (n := 4) hC d_mo_ratio_28 rfl (by decide) rfl rfl (mo_isPort_in hI c_5) ?_
      refine r_istore_n [(3, .int (tt_A st 53 (Int32.toNatClampNeg a1))), (0, .ref (tt_ad G 49)), (1, .int a1), (2, .int a2)] hC d_mo_ratio_29 rfl (by decide) rfl ?_
      refine r_aload_n 1 hC d_mo_ratio_30 rfl ?_
      refine r_getR (r := 53) hC d_mo_ratio_31 fl_mo_19 rfl rfl rfl ?_
      refine r_iload_n 2 hC d_mo_ratio_34 rfl ?_
      refine r_iload_n 3 hC d_mo_ratio_35 rfl ?_
      refine r_iast (n := 4) hC d_mo_ratio_36 rfl (by decide) rfl rfl (mo_isPort_in hI c_5) ?_
      refine r_iload_n 0 hC d_mo_ratio_37 rfl ?_
      exact r_iret hC hR d_mo_ratio_38 rfl rfl
    ·
      refine r_sipush (v := (-10102)) hC d_mo_ratio_19 (by decide) ?_
      exact r_iret hC hR d_mo_ratio_22 rfl rfl
  ·
    refine r_sipush (v := (-10101)) hC d_mo_ratio_8 (by decide) ?_
    exact r_iret hC hR d_mo_ratio_11 rfl rfl
/-! TideTableModel.be(II)I -/
def mo_be (st : tt_St) (a1 : Int32) (a2 : Int32) : Int32 × tt_St := (if (mo_isPort st a1) = 0 then ((-10101), st) else (if (mo_within a2 0 4) = 0 then ((-10102), st) else (if a1 = 0 then (if a2 = 3 then ((-10102), st) else ((tt_A st 50 (Int32.toNatClampNeg a1)), tt_pA st 50 (Int32.toNatClampNeg a1) a2)) else ((tt_A st 50 (Int32.toNatClampNeg a1)), tt_pA st 50 (Int32.toNatClampNeg a1) a2))))
set_option maxHeartbeats 4000000 in
set_option maxRecDepth 20000 in
theorem c_mo_be (G : tt_G) (st : tt_St) (a1 : Int32) (a2 : Int32) (hI : mo_ok st) : tt_C y_mo_be prog_7_method_60_code 4 (some .int) 2 43 G [.ref (tt_ad G 49), .int a1, .int a2] st (some (.int (mo_be st a1 a2).1)) (mo_be st a1 a2).2 := by
  refine tt_enter (α := Int32 × tt_St) (mk := fun r => (some (.int r.1), r.2)) (T := (mo_be st a1 a2)) (by decide +kernel) (Nat.le_of_ble_eq_true rfl) (fun κ hC hR => ?_)
  rw [mo_be]
  refine r_aload_n 0 hC d_mo_be_0 rfl ?_
  refine r_iload_n 1 hC d_mo_be_1 rfl ?_
  refine r_callV (o := 49) (rest := []) (stk1 := [.int (mo_isPort st a1)]) hC d_mo_be_2 (c_mo_isPort G st a1) mw_mo_isPort mi_mo_isPort mz_mo_isPort ml_mo_147 rfl rfl rfl rfl rfl (Nat.le_of_ble_eq_true rfl) rfl ?_
  refine r_if_ne (tgt := 12) hC d_mo_be_5 (by decide) (fun c_5 => ?_) (fun c_5 => ?_)
  ·
    refine r_iload_n 2 hC d_mo_be_12 rfl ?_
    refine r_iconst (v := 0) hC d_mo_be_13 (by decide) ?_
    refine r_iconst (v := 4) hC d_mo_be_14 (by decide) ?_
    refine r_callS (rest := []) (stk1 := [.int (mo_within a2 0 4)]) hC d_mo_be_15 (c_mo_within G st a2 0 4) mw_mo_within ms_mo_within ml_mo_93 rfl rfl rfl (Nat.le_of_ble_eq_true rfl) rfl ?_
    refine r_if_eq (tgt := 30) hC d_mo_be_18 (by decide) (fun c_18 => ?_) (fun c_18 => ?_)
    ·
      refine r_sipush (v := (-10102)) hC d_mo_be_30 (by decide) ?_
      exact r_iret hC hR d_mo_be_33 rfl rfl
    ·
      refine r_iload_n 1 hC d_mo_be_21 rfl ?_
      refine r_if_ne (tgt := 34) hC d_mo_be_22 (by decide) (fun c_22 => ?_) (fun c_22 => ?_)
      ·
        refine r_aload_n 0 hC d_mo_be_34 rfl ?_
        refine r_getR (r := 50) hC d_mo_be_35 fl_mo_7 rfl rfl rfl ?_
        refine r_iload_n 1 hC d_mo_be_38 rfl ?_
        refine r_iald (n := 4) hC d_mo_be_39 rfl (by decide) rfl rfl (mo_isPort_in hI c_5) ?_
        refine r_istore_n [(3, .int (tt_A st 50 (Int32.toNatClampNeg a1))), (0, .ref (tt_ad G 49)), (1, .int a1), (2, .int a2)] hC d_mo_be_40 rfl (by decide) rfl ?_
        refine r_aload_n 1 hC d_mo_be_41 rfl ?_
        refine r_getR (r := 50) hC d_mo_be_42 fl_mo_7 rfl rfl rfl ?_
        refine r_iload_n 2 hC d_mo_be_45 rfl ?_
        refine r_iload_n 3 hC d_mo_be_46 rfl ?_
        refine r_iast (n := 4) hC d_mo_be_47 rfl (by decide) rfl rfl (mo_isPort_in hI c_5) ?_
        refine r_iload_n 0 hC d_mo_be_48 rfl ?_
        exact r_iret hC hR d_mo_be_49 rfl rfl
      ·
        refine r_iload_n 2 hC d_mo_be_25 rfl ?_
        refine r_iconst (v := 3) hC d_mo_be_26 (by decide) ?_
        refine r_icmp_ne (tgt := 34) hC d_mo_be_27 (by decide) (fun c_27 => ?_) (fun c_27 => ?_)
        ·
          refine r_aload_n 0 hC d_mo_be_34 rfl ?_
          refine r_getR (r := 50) hC d_mo_be_35 fl_mo_7 rfl rfl rfl ?_
          refine r_iload_n 1 hC d_mo_be_38 rfl ?_
          refine r_iald (n := 4) hC d_mo_be_39 rfl (by decide) rfl rfl (mo_isPort_in hI c_5) ?_
          refine r_istore_n [(3, .int (tt_A st 50 (Int32.toNatClampNeg a1))), (0, .ref (tt_ad G 49)), (1, .int a1), (2, .int a2)] hC d_mo_be_40 rfl (by decide) rfl ?_
          refine r_aload_n 1 hC d_mo_be_41 rfl ?_
          refine r_getR (r := 50) hC d_mo_be_42 fl_mo_7 rfl rfl rfl ?_
          refine r_iload_n 2 hC d_mo_be_45 rfl ?_
          refine r_iload_n 3 hC d_mo_be_46 rfl ?_
          refine r_iast (n := 4) hC d_mo_be_47 rfl (by decide) rfl rfl (mo_isPort_in hI c_5) ?_
          refine r_iload_n 0 hC d_mo_be_48 rfl ?_
          exact r_iret hC hR d_mo_be_49 rfl rfl
        ·
          refine r_sipush (v := (-10102)) hC d_mo_be_30 (by decide) ?_
          exact r_iret hC hR d_mo_be_33 rfl rfl
  ·
    refine r_sipush (v := (-10101)) hC d_mo_be_8 (by decide) ?_
    exact r_iret hC hR d_mo_be_11 rfl rfl
/-! TideTableModel.add(IIII)I -/
def mo_add (st : tt_St) (a1 : Int32) (a2 : Int32) (a3 : Int32) (a4 : Int32) : Int32 × tt_St := (if (mo_isPort st a1) = 0 then ((-10101), st) else (if (mo_within a2 1 99) = 0 then ((-10102), st) else (if (mo_isNumber a3) = 0 then ((-10102), st) else (if (mo_within a4 0 63) = 0 then ((-10102), st) else (if (tt_A st 54 (Int32.toNatClampNeg a1)) = 3 then ((-10104), st) else ((tt_A (tt_pA (tt_pA (tt_pA (tt_pA st 55 (Int32.toNatClampNeg ((9 * a1) + (3 * (tt_A st 54 (Int32.toNatClampNeg a1))))) a2) 55 (Int32.toNatClampNeg (((9 * a1) + (3 * (tt_A st 54 (Int32.toNatClampNeg a1)))) + 1)) a3) 55 (Int32.toNatClampNeg (((9 * a1) + (3 * (tt_A st 54 (Int32.toNatClampNeg a1)))) + 2)) a4) 54 (Int32.toNatClampNeg a1) ((tt_A (tt_pA (tt_pA (tt_pA st 55 (Int32.toNatClampNeg ((9 * a1) + (3 * (tt_A st 54 (Int32.toNatClampNeg a1))))) a2) 55 (Int32.toNatClampNeg (((9 * a1) + (3 * (tt_A st 54 (Int32.toNatClampNeg a1)))) + 1)) a3) 55 (Int32.toNatClampNeg (((9 * a1) + (3 * (tt_A st 54 (Int32.toNatClampNeg a1)))) + 2)) a4) 54 (Int32.toNatClampNeg a1)) + 1)) 54 (Int32.toNatClampNeg a1)), tt_pA (tt_pA (tt_pA (tt_pA st 55 (Int32.toNatClampNeg ((9 * a1) + (3 * (tt_A st 54 (Int32.toNatClampNeg a1))))) a2) 55 (Int32.toNatClampNeg (((9 * a1) + (3 * (tt_A st 54 (Int32.toNatClampNeg a1)))) + 1)) a3) 55 (Int32.toNatClampNeg (((9 * a1) + (3 * (tt_A st 54 (Int32.toNatClampNeg a1)))) + 2)) a4) 54 (Int32.toNatClampNeg a1) ((tt_A (tt_pA (tt_pA (tt_pA st 55 (Int32.toNatClampNeg ((9 * a1) + (3 * (tt_A st 54 (Int32.toNatClampNeg a1))))) a2) 55 (Int32.toNatClampNeg (((9 * a1) + (3 * (tt_A st 54 (Int32.toNatClampNeg a1)))) + 1)) a3) 55 (Int32.toNatClampNeg (((9 * a1) + (3 * (tt_A st 54 (Int32.toNatClampNeg a1)))) + 2)) a4) 54 (Int32.toNatClampNeg a1)) + 1)))))))
set_option maxHeartbeats 4000000 in
set_option maxRecDepth 20000 in
theorem c_mo_add (G : tt_G) (st : tt_St) (a1 : Int32) (a2 : Int32) (a3 : Int32) (a4 : Int32) (hI : mo_ok st) : tt_C y_mo_add prog_7_method_58_code 6 (some .int) 2 43 G [.ref (tt_ad G 49), .int a1, .int a2, .int a3, .int a4] st (some (.int (mo_add st a1 a2 a3 a4).1)) (mo_add st a1 a2 a3 a4).2 := by
  refine tt_enter (α := Int32 × tt_St) (mk := fun r => (some (.int r.1), r.2)) (T := (mo_add st a1 a2 a3 a4)) (by decide +kernel) (Nat.le_of_ble_eq_true rfl) (fun κ hC hR => ?_)
  rw [mo_add]
  refine r_aload_n 0 hC d_mo_add_0 rfl ?_
  refine r_iload_n 1 hC d_mo_add_1 rfl ?_
  refine r_callV (o := 49) (rest := []) (stk1 := [.int (mo_isPort st a1)]) hC d_mo_add_2 (c_mo_isPort G st a1) mw_mo_isPort mi_mo_isPort mz_mo_isPort ml_mo_147 rfl rfl rfl rfl rfl (Nat.le_of_ble_eq_true rfl) rfl ?_
  refine r_if_ne (tgt := 12) hC d_mo_add_5 (by decide) (fun c_5 => ?_) (fun c_5 => ?_)
  ·
    refine r_iload_n 2 hC d_mo_add_12 rfl ?_
    refine r_iconst (v := 1) hC d_mo_add_13 (by decide) ?_
    refine r_bipush (v := 99) hC d_mo_add_14 (by decide) ?_
    refine r_callS (rest := []) (stk1 := [.int (mo_within a2 1 99)]) hC d_mo_add_16 (c_mo_within G st a2 1 99) mw_mo_within ms_mo_within ml_mo_93 rfl rfl rfl (Nat.le_of_ble_eq_true rfl) rfl ?_
    refine r_if_eq (tgt := 40) hC d_mo_add_19 (by decide) (fun c_19 => ?_) (fun c_19 => ?_)
    ·
      refine r_sipush (v := (-10102)) hC d_mo_add_40 (by decide) ?_
      exact r_iret hC hR d_mo_add_43 rfl rfl
    ·
      refine r_iload_n 3 hC d_mo_add_22 rfl ?_
      refine r_callS (rest := []) (stk1 := [.int (mo_isNumber a3)]) hC d_mo_add_23 (c_mo_isNumber G st a3) mw_mo_isNumber ms_mo_isNumber ml_mo_226 rfl rfl rfl (Nat.le_of_ble_eq_true rfl) rfl ?_
      refine r_if_eq (tgt := 40) hC d_mo_add_26 (by decide) (fun c_26 => ?_) (fun c_26 => ?_)
      ·
        refine r_sipush (v := (-10102)) hC d_mo_add_40 (by decide) ?_
        exact r_iret hC hR d_mo_add_43 rfl rfl
      ·
        refine r_iload 4 hC d_mo_add_29 rfl ?_
        refine r_iconst (v := 0) hC d_mo_add_31 (by decide) ?_
        refine r_bipush (v := 63) hC d_mo_add_32 (by decide) ?_
        refine r_callS (rest := []) (stk1 := [.int (mo_within a4 0 63)]) hC d_mo_add_34 (c_mo_within G st a4 0 63) mw_mo_within ms_mo_within ml_mo_93 rfl rfl rfl (Nat.le_of_ble_eq_true rfl) rfl ?_
        refine r_if_ne (tgt := 44) hC d_mo_add_37 (by decide) (fun c_37 => ?_) (fun c_37 => ?_)
        ·
          refine r_aload_n 0 hC d_mo_add_44 rfl ?_
          refine r_getR (r := 54) hC d_mo_add_45 fl_mo_22 rfl rfl rfl ?_
          refine r_iload_n 1 hC d_mo_add_48 rfl ?_
          refine r_iald (n := 4) hC d_mo_add_49 rfl (by decide) rfl rfl (mo_isPort_in hI c_5) ?_
          refine r_iconst (v := 3) hC d_mo_add_50 (by decide) ?_
          refine r_icmp_ne (tgt := 58) hC d_mo_add_51 (by decide) (fun c_51 => ?_) (fun c_51 => ?_)
          ·
            refine r_bipush (v := 9) hC d_mo_add_58 (by decide) ?_
            refine r_iload_n 1 hC d_mo_add_60 rfl ?_
            refine r_imul hC d_mo_add_61 ?_
            refine r_iconst (v := 3) hC d_mo_add_62 (by decide) ?_
            refine r_aload_n 0 hC d_mo_add_63 rfl ?_
            refine r_getR (r := 54) hC d_mo_add_64 fl_mo_22 rfl rfl rfl ?_
            refine r_iload_n 1 hC d_mo_add_67 rfl ?_
            refine r_iald (n := 4) hC d_mo_add_68 rfl (by decide) rfl rfl (mo_isPort_in hI c_5) ?_
            refine r_imul hC d_mo_add_69 ?_
            refine r_iadd hC d_mo_add_70 ?_
            refine r_istore [(5, .int ((9 * a1) + (3 * (tt_A st 54 (Int32.toNatClampNeg a1))))), (0, .ref (tt_ad G 49)), (1, .int a1), (2, .int a2), (3, .int a3), (4, .int a4)] hC d_mo_add_71 (by decide) rfl ?_
            refine r_aload_n 1 hC d_mo_add_73 rfl ?_
            refine r_getR (r := 55) hC d_mo_add_74 fl_mo_25 rfl rfl rfl ?_
            refine r_iload 0 hC d_mo_add_77 rfl ?_
            refine r_iload_n 3 hC d_mo_add_79 rfl ?_
            refine r_iast (n := 36) hC d_mo_add_80 rfl (by decide) rfl rfl (tt_k36 (mo_isPort_in hI c_5) (mo_w_in hI (mo_isPort_in hI c_5) c_51)).1 ?_
            refine r_aload_n 1 hC d_mo_add_81 rfl ?_
            refine r_getR (r := 55) hC d_mo_add_82 fl_mo_25 rfl rfl rfl ?_
            refine r_iload 0 hC d_mo_add_85 rfl ?_
            refine r_iconst (v := 1) hC d_mo_add_87 (by decide) ?_
            refine r_iadd hC d_mo_add_88 ?_
            refine r_iload_n 4 hC d_mo_add_89 rfl ?_
            refine r_iast (n := 36) hC d_mo_add_90 rfl (by decide) rfl rfl (tt_k36 (mo_isPort_in hI c_5) (mo_w_in hI (mo_isPort_in hI c_5) c_51)).2.1 ?_
            refine r_aload_n 1 hC d_mo_add_91 rfl ?_
            refine r_getR (r := 55) hC d_mo_add_92 fl_mo_25 rfl rfl rfl ?_
            refine r_iload 0 hC d_mo_add_95 rfl ?_
            refine r_iconst (v := 2) hC d_mo_add_97 (by decide) ?_
            refine r_iadd hC d_mo_add_98 ?_
            refine r_iload 5 hC d_mo_add_99 rfl ?_
            refine r_iast (n := 36) hC d_mo_add_101 rfl (by decide) rfl rfl (tt_k36 (mo_isPort_in hI c_5) (mo_w_in hI (mo_isPort_in hI c_5) c_51)).2.2 ?_
            refine r_aload_n 1 hC d_mo_add_102 rfl ?_
            refine r_getR (r := 54) hC d_mo_add_103 fl_mo_22 rfl rfl rfl ?_
            refine r_iload_n 2 hC d_mo_add_106 rfl ?_
            refine r_dup2 hC d_mo_add_107 rfl rfl ?_
            refine r_iald (n := 4) hC d_mo_add_108 rfl (by decide) rfl rfl (mo_isPort_in hI c_5) ?_
            refine r_iconst (v := 1) hC d_mo_add_109 (by decide) ?_
            refine r_iadd hC d_mo_add_110 ?_
            refine r_iast (n := 4) hC d_mo_add_111 rfl (by decide) rfl rfl (mo_isPort_in hI c_5) ?_
            refine r_aload_n 1 hC d_mo_add_112 rfl ?_
            refine r_getR (r := 54) hC d_mo_add_113 fl_mo_22 rfl rfl rfl ?_
            refine r_iload_n 2 hC d_mo_add_116 rfl ?_
            refine r_iald (n := 4) hC d_mo_add_117 rfl (by decide) rfl rfl (mo_isPort_in hI c_5) ?_
            exact r_iret hC hR d_mo_add_118 rfl rfl
          ·
            refine r_sipush (v := (-10104)) hC d_mo_add_54 (by decide) ?_
            exact r_iret hC hR d_mo_add_57 rfl rfl
        ·
          refine r_sipush (v := (-10102)) hC d_mo_add_40 (by decide) ?_
          exact r_iret hC hR d_mo_add_43 rfl rfl
  ·
    refine r_sipush (v := (-10101)) hC d_mo_add_8 (by decide) ?_
    exact r_iret hC hR d_mo_add_11 rfl rfl
/-! TideTableModel.take(II)I -/
def mo_take_l22 (a1 : Int32) (a2 : Int32) : Nat → Nat → tt_St → tt_St
  | 0, j, st => st
  | n + 1, j, st => (mo_take_l22 a1 a2 n (j + 1) (tt_pA st 55 (Int32.toNatClampNeg (((9 * a1) + (3 * a2)) + nI j)) (tt_A st 55 (Int32.toNatClampNeg ((((9 * a1) + (3 * a2)) + nI j) + 3)))))
set_option maxHeartbeats 4000000 in
set_option maxRecDepth 20000 in
theorem l_mo_take_22 {α : Type} {G : tt_G} {κ : tt_X α} {T : α} (hC : tt_Cx G κ prog_7_method_59_code "TideTableModel" 4 3 65) (a1 : Int32) (a2 : Int32) (hpw : vp_in a1 4 ∧ vp_in a2 3) : ∀ (n j : Nat) (st : tt_St), j + n = 6 - 3 * Int32.toNatClampNeg a2 → tt_V G κ T (mo_take_l22 a1 a2 n j st) 53 [(0, .ref (tt_ad G 49)), (1, .int a1)] [] → tt_V G κ T st 22 [(0, .ref (tt_ad G 49)), (1, .int a1), (3, .int (((9 * a1) + (3 * a2)) + nI j))] [] := by
  intro n
  induction n with
  | zero =>
    intro j st hj k
    refine r_iload_n 2 hC d_mo_take_22 rfl ?_
    refine r_bipush (v := 9) hC d_mo_take_23 (by decide) ?_
    refine r_iload_n 1 hC d_mo_take_25 rfl ?_
    refine r_imul hC d_mo_take_26 ?_
    refine r_bipush (v := 6) hC d_mo_take_27 (by decide) ?_
    refine r_iadd hC d_mo_take_29 ?_
    refine t_icmp_ge (tgt := 53) hC d_mo_take_30 (by decide) (tt_tkE hpw (by omega) (by omega)) ?_
    exact tt_cast [0, 1] rfl rfl k
  | succ n ih =>
    intro j st hj k
    refine r_iload_n 2 hC d_mo_take_22 rfl ?_
    refine r_bipush (v := 9) hC d_mo_take_23 (by decide) ?_
    refine r_iload_n 1 hC d_mo_take_25 rfl ?_
    refine r_imul hC d_mo_take_26 ?_
    refine r_bipush (v := 6) hC d_mo_take_27 (by decide) ?_
    refine r_iadd hC d_mo_take_29 ?_
    refine f_icmp_ge (tgt := 53) hC d_mo_take_30 (by decide) (tt_tkS hpw (by omega)) ?_
    refine r_aload_n 0 hC d_mo_take_33 rfl ?_
    refine r_getR (r := 55) hC d_mo_take_34 fl_mo_25 rfl rfl rfl ?_
    refine r_iload_n 2 hC d_mo_take_37 rfl ?_
    refine r_aload_n 0 hC d_mo_take_38 rfl ?_
    refine r_getR (r := 55) hC d_mo_take_39 fl_mo_25 rfl rfl rfl ?_
    refine r_iload_n 2 hC d_mo_take_42 rfl ?_
    refine r_iconst (v := 3) hC d_mo_take_43 (by decide) ?_
    refine r_iadd hC d_mo_take_44 ?_
    refine r_iald (n := 36) hC d_mo_take_45 rfl (by decide) rfl rfl (tt_tkI hpw (by omega)).2 ?_
    refine r_iast (n := 36) hC d_mo_take_46 rfl (by decide) rfl rfl (tt_tkI hpw (by omega)).1 ?_
    refine r_iinc 2 (((9 * a1) + (3 * a2)) + nI (j + 1)) [(3, .int (((9 * a1) + (3 * a2)) + nI (j + 1))), (0, .ref (tt_ad G 49)), (1, .int a1)] hC d_mo_take_47 rfl (by rw [nI_succ, ← Int32.add_assoc]; rfl) (by decide) rfl ?_
    refine r_goto (tgt := 22) hC d_mo_take_50 (by decide) ?_
    exact tt_cast [1, 2, 0] rfl rfl (ih (j + 1) (tt_pA st 55 (Int32.toNatClampNeg (((9 * a1) + (3 * a2)) + nI j)) (tt_A st 55 (Int32.toNatClampNeg ((((9 * a1) + (3 * a2)) + nI j) + 3)))) (by omega) (by simpa only [mo_take_l22] using k))
def mo_take (st : tt_St) (a1 : Int32) (a2 : Int32) : Int32 × tt_St := (if (mo_isWave st a1 a2) = 0 then ((-10101), st) else ((tt_A (tt_pA (mo_take_l22 a1 a2 (6 - 3 * Int32.toNatClampNeg a2) 0 st) 54 (Int32.toNatClampNeg a1) ((tt_A (mo_take_l22 a1 a2 (6 - 3 * Int32.toNatClampNeg a2) 0 st) 54 (Int32.toNatClampNeg a1)) - 1)) 54 (Int32.toNatClampNeg a1)), tt_pA (mo_take_l22 a1 a2 (6 - 3 * Int32.toNatClampNeg a2) 0 st) 54 (Int32.toNatClampNeg a1) ((tt_A (mo_take_l22 a1 a2 (6 - 3 * Int32.toNatClampNeg a2) 0 st) 54 (Int32.toNatClampNeg a1)) - 1)))
set_option maxHeartbeats 4000000 in
set_option maxRecDepth 20000 in
theorem c_mo_take (G : tt_G) (st : tt_St) (a1 : Int32) (a2 : Int32) (hI : mo_ok st) : tt_C y_mo_take prog_7_method_59_code 4 (some .int) 3 65 G [.ref (tt_ad G 49), .int a1, .int a2] st (some (.int (mo_take st a1 a2).1)) (mo_take st a1 a2).2 := by
  refine tt_enter (α := Int32 × tt_St) (mk := fun r => (some (.int r.1), r.2)) (T := (mo_take st a1 a2)) (by decide +kernel) (Nat.le_of_ble_eq_true rfl) (fun κ hC hR => ?_)
  rw [mo_take]
  refine r_aload_n 0 hC d_mo_take_0 rfl ?_
  refine r_iload_n 1 hC d_mo_take_1 rfl ?_
  refine r_iload_n 2 hC d_mo_take_2 rfl ?_
  refine r_callV (o := 49) (rest := []) (stk1 := [.int (mo_isWave st a1 a2)]) hC d_mo_take_3 (c_mo_isWave G st a1 a2 hI) mw_mo_isWave mi_mo_isWave mz_mo_isWave ml_mo_160 rfl rfl rfl rfl rfl (Nat.le_of_ble_eq_true rfl) rfl ?_
  refine r_if_ne (tgt := 13) hC d_mo_take_6 (by decide) (fun c_6 => ?_) (fun c_6 => ?_)
  ·
    refine r_bipush (v := 9) hC d_mo_take_13 (by decide) ?_
    refine r_iload_n 1 hC d_mo_take_15 rfl ?_
    refine r_imul hC d_mo_take_16 ?_
    refine r_iconst (v := 3) hC d_mo_take_17 (by decide) ?_
    refine r_iload_n 2 hC d_mo_take_18 rfl ?_
    refine r_imul hC d_mo_take_19 ?_
    refine r_iadd hC d_mo_take_20 ?_
    refine r_istore_n [(3, .int ((9 * a1) + (3 * a2))), (0, .ref (tt_ad G 49)), (1, .int a1), (2, .int a2)] hC d_mo_take_21 rfl (by decide) rfl ?_
    refine tt_cast [1, 2, 0] (by simp only [nI_0, Int32.add_zero]; rfl) rfl (l_mo_take_22 hC a1 a2 (mo_isWave_in hI c_6) (6 - 3 * Int32.toNatClampNeg a2) 0 st (by omega)  ?_)
    refine r_aload_n 0 hC d_mo_take_53 rfl ?_
    refine r_getR (r := 54) hC d_mo_take_54 fl_mo_22 rfl rfl rfl ?_
    refine r_iload_n 1 hC d_mo_take_57 rfl ?_
    refine r_dup2 hC d_mo_take_58 rfl rfl ?_
    refine r_iald (n := 4) hC d_mo_take_59 rfl (by decide) rfl rfl (mo_isWave_in hI c_6).1 ?_
    refine r_iconst (v := 1) hC d_mo_take_60 (by decide) ?_
    refine r_isub hC d_mo_take_61 ?_
    refine r_iast (n := 4) hC d_mo_take_62 rfl (by decide) rfl rfl (mo_isWave_in hI c_6).1 ?_
    refine r_aload_n 0 hC d_mo_take_63 rfl ?_
    refine r_getR (r := 54) hC d_mo_take_64 fl_mo_22 rfl rfl rfl ?_
    refine r_iload_n 1 hC d_mo_take_67 rfl ?_
    refine r_iald (n := 4) hC d_mo_take_68 rfl (by decide) rfl rfl (mo_isWave_in hI c_6).1 ?_
    exact r_iret hC hR d_mo_take_69 rfl rfl
  ·
    refine r_sipush (v := (-10101)) hC d_mo_take_9 (by decide) ?_
    exact r_iret hC hR d_mo_take_12 rfl rfl
/-! TideTableModel.see(IIZ)I -/
def mo_see (st : tt_St) (a1 : Int32) (a2 : Int32) (a3 : Int32) : Int32 × tt_St := (if (mo_isPort st a1) = 0 then ((-10101), st) else (if (mo_within a2 0 3) = 0 then ((-10102), st) else (if (tt_I st 49 9) = 6 then ((-10104), st) else (if a3 = 0 then ((tt_I (tt_pI (tt_pA (tt_pA (tt_pA st 57 (Int32.toNatClampNeg (tt_I st 49 9)) a1) 58 (Int32.toNatClampNeg (tt_I (tt_pA st 57 (Int32.toNatClampNeg (tt_I st 49 9)) a1) 49 9)) a2) 59 (Int32.toNatClampNeg (tt_I (tt_pA (tt_pA st 57 (Int32.toNatClampNeg (tt_I st 49 9)) a1) 58 (Int32.toNatClampNeg (tt_I (tt_pA st 57 (Int32.toNatClampNeg (tt_I st 49 9)) a1) 49 9)) a2) 49 9)) 0) 49 9 ((tt_I (tt_pA (tt_pA (tt_pA st 57 (Int32.toNatClampNeg (tt_I st 49 9)) a1) 58 (Int32.toNatClampNeg (tt_I (tt_pA st 57 (Int32.toNatClampNeg (tt_I st 49 9)) a1) 49 9)) a2) 59 (Int32.toNatClampNeg (tt_I (tt_pA (tt_pA st 57 (Int32.toNatClampNeg (tt_I st 49 9)) a1) 58 (Int32.toNatClampNeg (tt_I (tt_pA st 57 (Int32.toNatClampNeg (tt_I st 49 9)) a1) 49 9)) a2) 49 9)) 0) 49 9) + 1)) 49 9), tt_pI (tt_pA (tt_pA (tt_pA st 57 (Int32.toNatClampNeg (tt_I st 49 9)) a1) 58 (Int32.toNatClampNeg (tt_I (tt_pA st 57 (Int32.toNatClampNeg (tt_I st 49 9)) a1) 49 9)) a2) 59 (Int32.toNatClampNeg (tt_I (tt_pA (tt_pA st 57 (Int32.toNatClampNeg (tt_I st 49 9)) a1) 58 (Int32.toNatClampNeg (tt_I (tt_pA st 57 (Int32.toNatClampNeg (tt_I st 49 9)) a1) 49 9)) a2) 49 9)) 0) 49 9 ((tt_I (tt_pA (tt_pA (tt_pA st 57 (Int32.toNatClampNeg (tt_I st 49 9)) a1) 58 (Int32.toNatClampNeg (tt_I (tt_pA st 57 (Int32.toNatClampNeg (tt_I st 49 9)) a1) 49 9)) a2) 59 (Int32.toNatClampNeg (tt_I (tt_pA (tt_pA st 57 (Int32.toNatClampNeg (tt_I st 49 9)) a1) 58 (Int32.toNatClampNeg (tt_I (tt_pA st 57 (Int32.toNatClampNeg (tt_I st 49 9)) a1) 49 9)) a2) 49 9)) 0) 49 9) + 1)) else ((tt_I (tt_pI (tt_pA (tt_pA (tt_pA st 57 (Int32.toNatClampNeg (tt_I st 49 9)) a1) 58 (Int32.toNatClampNeg (tt_I (tt_pA st 57 (Int32.toNatClampNeg (tt_I st 49 9)) a1) 49 9)) a2) 59 (Int32.toNatClampNeg (tt_I (tt_pA (tt_pA st 57 (Int32.toNatClampNeg (tt_I st 49 9)) a1) 58 (Int32.toNatClampNeg (tt_I (tt_pA st 57 (Int32.toNatClampNeg (tt_I st 49 9)) a1) 49 9)) a2) 49 9)) 1) 49 9 ((tt_I (tt_pA (tt_pA (tt_pA st 57 (Int32.toNatClampNeg (tt_I st 49 9)) a1) 58 (Int32.toNatClampNeg (tt_I (tt_pA st 57 (Int32.toNatClampNeg (tt_I st 49 9)) a1) 49 9)) a2) 59 (Int32.toNatClampNeg (tt_I (tt_pA (tt_pA st 57 (Int32.toNatClampNeg (tt_I st 49 9)) a1) 58 (Int32.toNatClampNeg (tt_I (tt_pA st 57 (Int32.toNatClampNeg (tt_I st 49 9)) a1) 49 9)) a2) 49 9)) 1) 49 9) + 1)) 49 9), tt_pI (tt_pA (tt_pA (tt_pA st 57 (Int32.toNatClampNeg (tt_I st 49 9)) a1) 58 (Int32.toNatClampNeg (tt_I (tt_pA st 57 (Int32.toNatClampNeg (tt_I st 49 9)) a1) 49 9)) a2) 59 (Int32.toNatClampNeg (tt_I (tt_pA (tt_pA st 57 (Int32.toNatClampNeg (tt_I st 49 9)) a1) 58 (Int32.toNatClampNeg (tt_I (tt_pA st 57 (Int32.toNatClampNeg (tt_I st 49 9)) a1) 49 9)) a2) 49 9)) 1) 49 9 ((tt_I (tt_pA (tt_pA (tt_pA st 57 (Int32.toNatClampNeg (tt_I st 49 9)) a1) 58 (Int32.toNatClampNeg (tt_I (tt_pA st 57 (Int32.toNatClampNeg (tt_I st 49 9)) a1) 49 9)) a2) 59 (Int32.toNatClampNeg (tt_I (tt_pA (tt_pA st 57 (Int32.toNatClampNeg (tt_I st 49 9)) a1) 58 (Int32.toNatClampNeg (tt_I (tt_pA st 57 (Int32.toNatClampNeg (tt_I st 49 9)) a1) 49 9)) a2) 49 9)) 1) 49 9) + 1))))))
set_option maxHeartbeats 4000000 in
set_option maxRecDepth 20000 in
theorem c_mo_see (G : tt_G) (st : tt_St) (a1 : Int32) (a2 : Int32) (a3 : Int32) (hI : mo_ok st) : tt_C y_mo_see prog_7_method_62_code 4 (some .int) 2 43 G [.ref (tt_ad G 49), .int a1, .int a2, .int a3] st (some (.int (mo_see st a1 a2 a3).1)) (mo_see st a1 a2 a3).2 := by
  refine tt_enter (α := Int32 × tt_St) (mk := fun r => (some (.int r.1), r.2)) (T := (mo_see st a1 a2 a3)) (by decide +kernel) (Nat.le_of_ble_eq_true rfl) (fun κ hC hR => ?_)
  rw [mo_see]
  refine r_aload_n 0 hC d_mo_see_0 rfl ?_
  refine r_iload_n 1 hC d_mo_see_1 rfl ?_
  refine r_callV (o := 49) (rest := []) (stk1 := [.int (mo_isPort st a1)]) hC d_mo_see_2 (c_mo_isPort G st a1) mw_mo_isPort mi_mo_isPort mz_mo_isPort ml_mo_147 rfl rfl rfl rfl rfl (Nat.le_of_ble_eq_true rfl) rfl ?_
  refine r_if_ne (tgt := 12) hC d_mo_see_5 (by decide) (fun c_5 => ?_) (fun c_5 => ?_)
  ·
    refine r_iload_n 2 hC d_mo_see_12 rfl ?_
    refine r_iconst (v := 0) hC d_mo_see_13 (by decide) ?_
    refine r_iconst (v := 3) hC d_mo_see_14 (by decide) ?_
    refine r_callS (rest := []) (stk1 := [.int (mo_within a2 0 3)]) hC d_mo_see_15 (c_mo_within G st a2 0 3) mw_mo_within ms_mo_within ml_mo_93 rfl rfl rfl (Nat.le_of_ble_eq_true rfl) rfl ?_
    refine r_if_ne (tgt := 25) hC d_mo_see_18 (by decide) (fun c_18 => ?_) (fun c_18 => ?_)
    ·
      refine r_aload_n 0 hC d_mo_see_25 rfl ?_
      refine r_getI hC d_mo_see_26 fl_mo_144 rfl rfl ?_
      refine r_bipush (v := 6) hC d_mo_see_29 (by decide) ?_
      refine r_icmp_ne (tgt := 38) hC d_mo_see_31 (by decide) (fun c_31 => ?_) (fun c_31 => ?_)
      ·
        refine r_aload_n 0 hC d_mo_see_38 rfl ?_
        refine r_getR (r := 57) hC d_mo_see_39 fl_mo_31 rfl rfl rfl ?_
        refine r_aload_n 0 hC d_mo_see_42 rfl ?_
        refine r_getI hC d_mo_see_43 fl_mo_144 rfl rfl ?_
        refine r_iload_n 1 hC d_mo_see_46 rfl ?_
        refine r_iast (n := 6) hC d_mo_see_47 rfl (by decide) rfl rfl (mo_seen_in hI c_31) ?_
        refine r_aload_n 0 hC d_mo_see_48 rfl ?_
        refine r_getR (r := 58) hC d_mo_see_49 fl_mo_34 rfl rfl rfl ?_
        refine r_aload_n 0 hC d_mo_see_52 rfl ?_
        refine r_getI hC d_mo_see_53 fl_mo_144 rfl rfl ?_
        refine r_iload_n 2 hC d_mo_see_56 rfl ?_
        refine r_iast (n := 6) hC d_mo_see_57 rfl (by decide) rfl rfl (mo_seen_in hI c_31) ?_
        refine r_aload_n 0 hC d_mo_see_58 rfl ?_
        refine r_getR (r := 59) hC d_mo_see_59 fl_mo_37 rfl rfl rfl ?_
        refine r_aload_n 0 hC d_mo_see_62 rfl ?_
        refine r_getI hC d_mo_see_63 fl_mo_144 rfl rfl ?_
        refine r_iload_n 3 hC d_mo_see_66 rfl ?_
        refine r_if_eq (tgt := 74) hC d_mo_see_67 (by decide) (fun c_67 => ?_) (fun c_67 => ?_)
        ·
          refine r_iconst (v := 0) hC d_mo_see_74 (by decide) ?_
          refine r_iast (n := 6) hC d_mo_see_75 rfl (by decide) rfl rfl (mo_seen_in hI c_31) ?_
          refine r_aload_n 0 hC d_mo_see_76 rfl ?_
          refine r_dup hC d_mo_see_77 rfl ?_
          refine r_getI hC d_mo_see_78 fl_mo_144 rfl rfl ?_
          refine r_iconst (v := 1) hC d_mo_see_81 (by decide) ?_
          refine r_iadd hC d_mo_see_82 ?_
          refine r_putI hC d_mo_see_83 fl_mo_144 fp_5_9 rfl rfl rfl rfl ?_
          refine r_aload_n 0 hC d_mo_see_86 rfl ?_
          refine r_getI hC d_mo_see_87 fl_mo_144 rfl rfl ?_
          exact r_iret hC hR d_mo_see_90 rfl rfl
        ·
          refine r_iconst (v := 1) hC d_mo_see_70 (by decide) ?_
          refine r_goto (tgt := 75) hC d_mo_see_71 (by decide) ?_
          refine r_iast (n := 6) hC d_mo_see_75 rfl (by decide) rfl rfl (mo_seen_in hI c_31) ?_
          refine r_aload_n 0 hC d_mo_see_76 rfl ?_
          refine r_dup hC d_mo_see_77 rfl ?_
          refine r_getI hC d_mo_see_78 fl_mo_144 rfl rfl ?_
          refine r_iconst (v := 1) hC d_mo_see_81 (by decide) ?_
          refine r_iadd hC d_mo_see_82 ?_
          refine r_putI hC d_mo_see_83 fl_mo_144 fp_5_9 rfl rfl rfl rfl ?_
          refine r_aload_n 0 hC d_mo_see_86 rfl ?_
          refine r_getI hC d_mo_see_87 fl_mo_144 rfl rfl ?_
          exact r_iret hC hR d_mo_see_90 rfl rfl
      ·
        refine r_sipush (v := (-10104)) hC d_mo_see_34 (by decide) ?_
        exact r_iret hC hR d_mo_see_37 rfl rfl
    ·
      refine r_sipush (v := (-10102)) hC d_mo_see_21 (by decide) ?_
      exact r_iret hC hR d_mo_see_24 rfl rfl
  ·
    refine r_sipush (v := (-10101)) hC d_mo_see_8 (by decide) ?_
    exact r_iret hC hR d_mo_see_11 rfl rfl
/-! TideTableModel.forget()I -/
def mo_forget (st : tt_St) : Int32 × tt_St := ((tt_I st 49 9), tt_pI st 49 9 0)
set_option maxHeartbeats 4000000 in
set_option maxRecDepth 20000 in
theorem c_mo_forget (G : tt_G) (st : tt_St)   : tt_C y_mo_forget prog_7_method_63_code 2 (some .int) 0 0 G [.ref (tt_ad G 49)] st (some (.int (mo_forget st).1)) (mo_forget st).2 := by
  refine tt_enter (α := Int32 × tt_St) (mk := fun r => (some (.int r.1), r.2)) (T := (mo_forget st)) (by decide +kernel) (Nat.le_of_ble_eq_true rfl) (fun κ hC hR => ?_)
  rw [mo_forget]
  refine r_aload_n 0 hC d_mo_forget_0 rfl ?_
  refine r_getI hC d_mo_forget_1 fl_mo_144 rfl rfl ?_
  refine r_istore_n [(1, .int (tt_I st 49 9)), (0, .ref (tt_ad G 49))] hC d_mo_forget_4 rfl (by decide) rfl ?_
  refine r_aload_n 1 hC d_mo_forget_5 rfl ?_
  refine r_iconst (v := 0) hC d_mo_forget_6 (by decide) ?_
  refine r_putI hC d_mo_forget_7 fl_mo_144 fp_5_9 rfl rfl rfl rfl ?_
  refine r_iload_n 0 hC d_mo_forget_10 rfl ?_
  exact r_iret hC hR d_mo_forget_11 rfl rfl
/-! TideTableModel.image()I -/
def mo_image_l34  : Nat → Nat → tt_St → tt_St
  | 0, j, st => st
  | n + 1, j, st => (mo_image_l34 n (j + 1) (tt_pA (tt_pA (tt_pA (tt_pA (tt_pA st 67 (Int32.toNatClampNeg (nI j)) (tt_A st 50 (Int32.toNatClampNeg (nI j)))) 68 (Int32.toNatClampNeg (nI j)) (tt_A (tt_pA st 67 (Int32.toNatClampNeg (nI j)) (tt_A st 50 (Int32.toNatClampNeg (nI j)))) 51 (Int32.toNatClampNeg (nI j)))) 69 (Int32.toNatClampNeg (nI j)) (tt_A (tt_pA (tt_pA st 67 (Int32.toNatClampNeg (nI j)) (tt_A st 50 (Int32.toNatClampNeg (nI j)))) 68 (Int32.toNatClampNeg (nI j)) (tt_A (tt_pA st 67 (Int32.toNatClampNeg (nI j)) (tt_A st 50 (Int32.toNatClampNeg (nI j)))) 51 (Int32.toNatClampNeg (nI j)))) 52 (Int32.toNatClampNeg (nI j)))) 70 (Int32.toNatClampNeg (nI j)) (tt_A (tt_pA (tt_pA (tt_pA st 67 (Int32.toNatClampNeg (nI j)) (tt_A st 50 (Int32.toNatClampNeg (nI j)))) 68 (Int32.toNatClampNeg (nI j)) (tt_A (tt_pA st 67 (Int32.toNatClampNeg (nI j)) (tt_A st 50 (Int32.toNatClampNeg (nI j)))) 51 (Int32.toNatClampNeg (nI j)))) 69 (Int32.toNatClampNeg (nI j)) (tt_A (tt_pA (tt_pA st 67 (Int32.toNatClampNeg (nI j)) (tt_A st 50 (Int32.toNatClampNeg (nI j)))) 68 (Int32.toNatClampNeg (nI j)) (tt_A (tt_pA st 67 (Int32.toNatClampNeg (nI j)) (tt_A st 50 (Int32.toNatClampNeg (nI j)))) 51 (Int32.toNatClampNeg (nI j)))) 52 (Int32.toNatClampNeg (nI j)))) 53 (Int32.toNatClampNeg (nI j)))) 71 (Int32.toNatClampNeg (nI j)) (tt_A (tt_pA (tt_pA (tt_pA (tt_pA st 67 (Int32.toNatClampNeg (nI j)) (tt_A st 50 (Int32.toNatClampNeg (nI j)))) 68 (Int32.toNatClampNeg (nI j)) (tt_A (tt_pA st 67 (Int32.toNatClampNeg (nI j)) (tt_A st 50 (Int32.toNatClampNeg (nI j)))) 51 (Int32.toNatClampNeg (nI j)))) 69 (Int32.toNatClampNeg (nI j)) (tt_A (tt_pA (tt_pA st 67 (Int32.toNatClampNeg (nI j)) (tt_A st 50 (Int32.toNatClampNeg (nI j)))) 68 (Int32.toNatClampNeg (nI j)) (tt_A (tt_pA st 67 (Int32.toNatClampNeg (nI j)) (tt_A st 50 (Int32.toNatClampNeg (nI j)))) 51 (Int32.toNatClampNeg (nI j)))) 52 (Int32.toNatClampNeg (nI j)))) 70 (Int32.toNatClampNeg (nI j)) (tt_A (tt_pA (tt_pA (tt_pA st 67 (Int32.toNatClampNeg (nI j)) (tt_A st 50 (Int32.toNatClampNeg (nI j)))) 68 (Int32.toNatClampNeg (nI j)) (tt_A (tt_pA st 67 (Int32.toNatClampNeg (nI j)) (tt_A st 50 (Int32.toNatClampNeg (nI j)))) 51 (Int32.toNatClampNeg (nI j)))) 69 (Int32.toNatClampNeg (nI j)) (tt_A (tt_pA (tt_pA st 67 (Int32.toNatClampNeg (nI j)) (tt_A st 50 (Int32.toNatClampNeg (nI j)))) 68 (Int32.toNatClampNeg (nI j)) (tt_A (tt_pA st 67 (Int32.toNatClampNeg (nI j)) (tt_A st 50 (Int32.toNatClampNeg (nI j)))) 51 (Int32.toNatClampNeg (nI j)))) 52 (Int32.toNatClampNeg (nI j)))) 53 (Int32.toNatClampNeg (nI j)))) 54 (Int32.toNatClampNeg (nI j)))))
set_option maxHeartbeats 4000000 in
set_option maxRecDepth 20000 in
theorem l_mo_image_34 {α : Type} {G : tt_G} {κ : tt_X α} {T : α} (hC : tt_Cx G κ prog_7_method_69_code "TideTableModel" 2 0 0)   : ∀ (n j : Nat) (st : tt_St), j + n = 4 → tt_V G κ T (mo_image_l34 n j st) 105 [(0, .ref (tt_ad G 49))] [] → tt_V G κ T st 34 [(0, .ref (tt_ad G 49)), (1, .int (nI j))] [] := by
  intro n
  induction n with
  | zero =>
    intro j st hj k
    refine r_iload_n 1 hC d_mo_image_34 rfl ?_
    refine r_iconst (v := 4) hC d_mo_image_35 (by decide) ?_
    refine t_icmp_ge (tgt := 105) hC d_mo_image_36 (by decide) (nI_le (a := 4) (by omega) (by omega)) ?_
    exact tt_cast [0] rfl rfl k
  | succ n ih =>
    intro j st hj k
    refine r_iload_n 1 hC d_mo_image_34 rfl ?_
    refine r_iconst (v := 4) hC d_mo_image_35 (by decide) ?_
    refine f_icmp_ge (tgt := 105) hC d_mo_image_36 (by decide) (nI_ge (a := j) (b := 4) (by omega) (by omega)) ?_
    refine r_aload_n 0 hC d_mo_image_39 rfl ?_
    refine r_getR (r := 67) hC d_mo_image_40 fl_mo_62 rfl rfl rfl ?_
    refine r_iload_n 1 hC d_mo_image_43 rfl ?_
    refine r_aload_n 0 hC d_mo_image_44 rfl ?_
    refine r_getR (r := 50) hC d_mo_image_45 fl_mo_7 rfl rfl rfl ?_
    refine r_iload_n 1 hC d_mo_image_48 rfl ?_
    refine r_iald (n := 4) hC d_mo_image_49 rfl (by decide) rfl rfl (vp_in_nI (by omega) (by omega)) ?_
    refine r_iast (n := 4) hC d_mo_image_50 rfl (by decide) rfl rfl (vp_in_nI (by omega) (by omega)) ?_
    refine r_aload_n 0 hC d_mo_image_51 rfl ?_
    refine r_getR (r := 68) hC d_mo_image_52 fl_mo_65 rfl rfl rfl ?_
    refine r_iload_n 1 hC d_mo_image_55 rfl ?_
    refine r_aload_n 0 hC d_mo_image_56 rfl ?_
    refine r_getR (r := 51) hC d_mo_image_57 fl_mo_13 rfl rfl rfl ?_
    refine r_iload_n 1 hC d_mo_image_60 rfl ?_
    refine r_iald (n := 4) hC d_mo_image_61 rfl (by decide) rfl rfl (vp_in_nI (by omega) (by omega)) ?_
    refine r_iast (n := 4) hC d_mo_image_62 rfl (by decide) rfl rfl (vp_in_nI (by omega) (by omega)) ?_
    refine r_aload_n 0 hC d_mo_image_63 rfl ?_
    refine r_getR (r := 69) hC d_mo_image_64 fl_mo_68 rfl rfl rfl ?_
    refine r_iload_n 1 hC d_mo_image_67 rfl ?_
    refine r_aload_n 0 hC d_mo_image_68 rfl ?_
    refine r_getR (r := 52) hC d_mo_image_69 fl_mo_16 rfl rfl rfl ?_
    refine r_iload_n 1 hC d_mo_image_72 rfl ?_
    refine r_iald (n := 4) hC d_mo_image_73 rfl (by decide) rfl rfl (vp_in_nI (by omega) (by omega)) ?_
    refine r_iast (n := 4) hC d_mo_image_74 rfl (by decide) rfl rfl (vp_in_nI (by omega) (by omega)) ?_
    refine r_aload_n 0 hC d_mo_image_75 rfl ?_
    refine r_getR (r := 70) hC d_mo_image_76 fl_mo_71 rfl rfl rfl ?_
    refine r_iload_n 1 hC d_mo_image_79 rfl ?_
    refine r_aload_n 0 hC d_mo_image_80 rfl ?_
    refine r_getR (r := 53) hC d_mo_image_81 fl_mo_19 rfl rfl rfl ?_
    refine r_iload_n 1 hC d_mo_image_84 rfl ?_
    refine r_iald (n := 4) hC d_mo_image_85 rfl (by decide) rfl rfl (vp_in_nI (by omega) (by omega)) ?_
    refine r_iast (n := 4) hC d_mo_image_86 rfl (by decide) rfl rfl (vp_in_nI (by omega) (by omega)) ?_
    refine r_aload_n 0 hC d_mo_image_87 rfl ?_
    refine r_getR (r := 71) hC d_mo_image_88 fl_mo_74 rfl rfl rfl ?_
    refine r_iload_n 1 hC d_mo_image_91 rfl ?_
    refine r_aload_n 0 hC d_mo_image_92 rfl ?_
    refine r_getR (r := 54) hC d_mo_image_93 fl_mo_22 rfl rfl rfl ?_
    refine r_iload_n 1 hC d_mo_image_96 rfl ?_
    refine r_iald (n := 4) hC d_mo_image_97 rfl (by decide) rfl rfl (vp_in_nI (by omega) (by omega)) ?_
    refine r_iast (n := 4) hC d_mo_image_98 rfl (by decide) rfl rfl (vp_in_nI (by omega) (by omega)) ?_
    refine r_iinc 1 (nI (j + 1)) [(1, .int (nI (j + 1))), (0, .ref (tt_ad G 49))] hC d_mo_image_99 rfl (by rw [nI_succ]; rfl) (by decide) rfl ?_
    refine r_goto (tgt := 34) hC d_mo_image_102 (by decide) ?_
    exact tt_cast [1, 0] rfl rfl (ih (j + 1) (tt_pA (tt_pA (tt_pA (tt_pA (tt_pA st 67 (Int32.toNatClampNeg (nI j)) (tt_A st 50 (Int32.toNatClampNeg (nI j)))) 68 (Int32.toNatClampNeg (nI j)) (tt_A (tt_pA st 67 (Int32.toNatClampNeg (nI j)) (tt_A st 50 (Int32.toNatClampNeg (nI j)))) 51 (Int32.toNatClampNeg (nI j)))) 69 (Int32.toNatClampNeg (nI j)) (tt_A (tt_pA (tt_pA st 67 (Int32.toNatClampNeg (nI j)) (tt_A st 50 (Int32.toNatClampNeg (nI j)))) 68 (Int32.toNatClampNeg (nI j)) (tt_A (tt_pA st 67 (Int32.toNatClampNeg (nI j)) (tt_A st 50 (Int32.toNatClampNeg (nI j)))) 51 (Int32.toNatClampNeg (nI j)))) 52 (Int32.toNatClampNeg (nI j)))) 70 (Int32.toNatClampNeg (nI j)) (tt_A (tt_pA (tt_pA (tt_pA st 67 (Int32.toNatClampNeg (nI j)) (tt_A st 50 (Int32.toNatClampNeg (nI j)))) 68 (Int32.toNatClampNeg (nI j)) (tt_A (tt_pA st 67 (Int32.toNatClampNeg (nI j)) (tt_A st 50 (Int32.toNatClampNeg (nI j)))) 51 (Int32.toNatClampNeg (nI j)))) 69 (Int32.toNatClampNeg (nI j)) (tt_A (tt_pA (tt_pA st 67 (Int32.toNatClampNeg (nI j)) (tt_A st 50 (Int32.toNatClampNeg (nI j)))) 68 (Int32.toNatClampNeg (nI j)) (tt_A (tt_pA st 67 (Int32.toNatClampNeg (nI j)) (tt_A st 50 (Int32.toNatClampNeg (nI j)))) 51 (Int32.toNatClampNeg (nI j)))) 52 (Int32.toNatClampNeg (nI j)))) 53 (Int32.toNatClampNeg (nI j)))) 71 (Int32.toNatClampNeg (nI j)) (tt_A (tt_pA (tt_pA (tt_pA (tt_pA st 67 (Int32.toNatClampNeg (nI j)) (tt_A st 50 (Int32.toNatClampNeg (nI j)))) 68 (Int32.toNatClampNeg (nI j)) (tt_A (tt_pA st 67 (Int32.toNatClampNeg (nI j)) (tt_A st 50 (Int32.toNatClampNeg (nI j)))) 51 (Int32.toNatClampNeg (nI j)))) 69 (Int32.toNatClampNeg (nI j)) (tt_A (tt_pA (tt_pA st 67 (Int32.toNatClampNeg (nI j)) (tt_A st 50 (Int32.toNatClampNeg (nI j)))) 68 (Int32.toNatClampNeg (nI j)) (tt_A (tt_pA st 67 (Int32.toNatClampNeg (nI j)) (tt_A st 50 (Int32.toNatClampNeg (nI j)))) 51 (Int32.toNatClampNeg (nI j)))) 52 (Int32.toNatClampNeg (nI j)))) 70 (Int32.toNatClampNeg (nI j)) (tt_A (tt_pA (tt_pA (tt_pA st 67 (Int32.toNatClampNeg (nI j)) (tt_A st 50 (Int32.toNatClampNeg (nI j)))) 68 (Int32.toNatClampNeg (nI j)) (tt_A (tt_pA st 67 (Int32.toNatClampNeg (nI j)) (tt_A st 50 (Int32.toNatClampNeg (nI j)))) 51 (Int32.toNatClampNeg (nI j)))) 69 (Int32.toNatClampNeg (nI j)) (tt_A (tt_pA (tt_pA st 67 (Int32.toNatClampNeg (nI j)) (tt_A st 50 (Int32.toNatClampNeg (nI j)))) 68 (Int32.toNatClampNeg (nI j)) (tt_A (tt_pA st 67 (Int32.toNatClampNeg (nI j)) (tt_A st 50 (Int32.toNatClampNeg (nI j)))) 51 (Int32.toNatClampNeg (nI j)))) 52 (Int32.toNatClampNeg (nI j)))) 53 (Int32.toNatClampNeg (nI j)))) 54 (Int32.toNatClampNeg (nI j)))) (by omega) (by simpa only [mo_image_l34] using k))
def mo_image_l107  : Nat → Nat → tt_St → tt_St
  | 0, j, st => st
  | n + 1, j, st => (mo_image_l107 n (j + 1) (tt_pA st 72 (Int32.toNatClampNeg (nI j)) (tt_A st 55 (Int32.toNatClampNeg (nI j)))))
set_option maxHeartbeats 4000000 in
set_option maxRecDepth 20000 in
theorem l_mo_image_107 {α : Type} {G : tt_G} {κ : tt_X α} {T : α} (hC : tt_Cx G κ prog_7_method_69_code "TideTableModel" 2 0 0)   : ∀ (n j : Nat) (st : tt_St), j + n = 36 → tt_V G κ T (mo_image_l107 n j st) 131 [(0, .ref (tt_ad G 49))] [] → tt_V G κ T st 107 [(0, .ref (tt_ad G 49)), (1, .int (nI j))] [] := by
  intro n
  induction n with
  | zero =>
    intro j st hj k
    refine r_iload_n 1 hC d_mo_image_107 rfl ?_
    refine r_bipush (v := 36) hC d_mo_image_108 (by decide) ?_
    refine t_icmp_ge (tgt := 131) hC d_mo_image_110 (by decide) (nI_le (a := 36) (by omega) (by omega)) ?_
    exact tt_cast [0] rfl rfl k
  | succ n ih =>
    intro j st hj k
    refine r_iload_n 1 hC d_mo_image_107 rfl ?_
    refine r_bipush (v := 36) hC d_mo_image_108 (by decide) ?_
    refine f_icmp_ge (tgt := 131) hC d_mo_image_110 (by decide) (nI_ge (a := j) (b := 36) (by omega) (by omega)) ?_
    refine r_aload_n 0 hC d_mo_image_113 rfl ?_
    refine r_getR (r := 72) hC d_mo_image_114 fl_mo_77 rfl rfl rfl ?_
    refine r_iload_n 1 hC d_mo_image_117 rfl ?_
    refine r_aload_n 0 hC d_mo_image_118 rfl ?_
    refine r_getR (r := 55) hC d_mo_image_119 fl_mo_25 rfl rfl rfl ?_
    refine r_iload_n 1 hC d_mo_image_122 rfl ?_
    refine r_iald (n := 36) hC d_mo_image_123 rfl (by decide) rfl rfl (vp_in_nI (by omega) (by omega)) ?_
    refine r_iast (n := 36) hC d_mo_image_124 rfl (by decide) rfl rfl (vp_in_nI (by omega) (by omega)) ?_
    refine r_iinc 1 (nI (j + 1)) [(1, .int (nI (j + 1))), (0, .ref (tt_ad G 49))] hC d_mo_image_125 rfl (by rw [nI_succ]; rfl) (by decide) rfl ?_
    refine r_goto (tgt := 107) hC d_mo_image_128 (by decide) ?_
    exact tt_cast [1, 0] rfl rfl (ih (j + 1) (tt_pA st 72 (Int32.toNatClampNeg (nI j)) (tt_A st 55 (Int32.toNatClampNeg (nI j)))) (by omega) (by simpa only [mo_image_l107] using k))
def mo_image_l133  : Nat → Nat → tt_St → tt_St
  | 0, j, st => st
  | n + 1, j, st => (mo_image_l133 n (j + 1) (tt_pA (tt_pA (tt_pA st 73 (Int32.toNatClampNeg (nI j)) (tt_A st 57 (Int32.toNatClampNeg (nI j)))) 74 (Int32.toNatClampNeg (nI j)) (tt_A (tt_pA st 73 (Int32.toNatClampNeg (nI j)) (tt_A st 57 (Int32.toNatClampNeg (nI j)))) 58 (Int32.toNatClampNeg (nI j)))) 75 (Int32.toNatClampNeg (nI j)) (tt_A (tt_pA (tt_pA st 73 (Int32.toNatClampNeg (nI j)) (tt_A st 57 (Int32.toNatClampNeg (nI j)))) 74 (Int32.toNatClampNeg (nI j)) (tt_A (tt_pA st 73 (Int32.toNatClampNeg (nI j)) (tt_A st 57 (Int32.toNatClampNeg (nI j)))) 58 (Int32.toNatClampNeg (nI j)))) 59 (Int32.toNatClampNeg (nI j)))))
set_option maxHeartbeats 4000000 in
set_option maxRecDepth 20000 in
theorem l_mo_image_133 {α : Type} {G : tt_G} {κ : tt_X α} {T : α} (hC : tt_Cx G κ prog_7_method_69_code "TideTableModel" 2 0 0)   : ∀ (n j : Nat) (st : tt_St), j + n = 6 → tt_V G κ T (mo_image_l133 n j st) 181 [(0, .ref (tt_ad G 49))] [] → tt_V G κ T st 133 [(0, .ref (tt_ad G 49)), (1, .int (nI j))] [] := by
  intro n
  induction n with
  | zero =>
    intro j st hj k
    refine r_iload_n 1 hC d_mo_image_133 rfl ?_
    refine r_bipush (v := 6) hC d_mo_image_134 (by decide) ?_
    refine t_icmp_ge (tgt := 181) hC d_mo_image_136 (by decide) (nI_le (a := 6) (by omega) (by omega)) ?_
    exact tt_cast [0] rfl rfl k
  | succ n ih =>
    intro j st hj k
    refine r_iload_n 1 hC d_mo_image_133 rfl ?_
    refine r_bipush (v := 6) hC d_mo_image_134 (by decide) ?_
    refine f_icmp_ge (tgt := 181) hC d_mo_image_136 (by decide) (nI_ge (a := j) (b := 6) (by omega) (by omega)) ?_
    refine r_aload_n 0 hC d_mo_image_139 rfl ?_
    refine r_getR (r := 73) hC d_mo_image_140 fl_mo_80 rfl rfl rfl ?_
    refine r_iload_n 1 hC d_mo_image_143 rfl ?_
    refine r_aload_n 0 hC d_mo_image_144 rfl ?_
    refine r_getR (r := 57) hC d_mo_image_145 fl_mo_31 rfl rfl rfl ?_
    refine r_iload_n 1 hC d_mo_image_148 rfl ?_
    refine r_iald (n := 6) hC d_mo_image_149 rfl (by decide) rfl rfl (vp_in_nI (by omega) (by omega)) ?_
    refine r_iast (n := 6) hC d_mo_image_150 rfl (by decide) rfl rfl (vp_in_nI (by omega) (by omega)) ?_
    refine r_aload_n 0 hC d_mo_image_151 rfl ?_
    refine r_getR (r := 74) hC d_mo_image_152 fl_mo_83 rfl rfl rfl ?_
    refine r_iload_n 1 hC d_mo_image_155 rfl ?_
    refine r_aload_n 0 hC d_mo_image_156 rfl ?_
    refine r_getR (r := 58) hC d_mo_image_157 fl_mo_34 rfl rfl rfl ?_
    refine r_iload_n 1 hC d_mo_image_160 rfl ?_
    refine r_iald (n := 6) hC d_mo_image_161 rfl (by decide) rfl rfl (vp_in_nI (by omega) (by omega)) ?_
    refine r_iast (n := 6) hC d_mo_image_162 rfl (by decide) rfl rfl (vp_in_nI (by omega) (by omega)) ?_
    refine r_aload_n 0 hC d_mo_image_163 rfl ?_
    refine r_getR (r := 75) hC d_mo_image_164 fl_mo_86 rfl rfl rfl ?_
    refine r_iload_n 1 hC d_mo_image_167 rfl ?_
    refine r_aload_n 0 hC d_mo_image_168 rfl ?_
    refine r_getR (r := 59) hC d_mo_image_169 fl_mo_37 rfl rfl rfl ?_
    refine r_iload_n 1 hC d_mo_image_172 rfl ?_
    refine r_iald (n := 6) hC d_mo_image_173 rfl (by decide) rfl rfl (vp_in_nI (by omega) (by omega)) ?_
    refine r_iast (n := 6) hC d_mo_image_174 rfl (by decide) rfl rfl (vp_in_nI (by omega) (by omega)) ?_
    refine r_iinc 1 (nI (j + 1)) [(1, .int (nI (j + 1))), (0, .ref (tt_ad G 49))] hC d_mo_image_175 rfl (by rw [nI_succ]; rfl) (by decide) rfl ?_
    refine r_goto (tgt := 133) hC d_mo_image_178 (by decide) ?_
    exact tt_cast [1, 0] rfl rfl (ih (j + 1) (tt_pA (tt_pA (tt_pA st 73 (Int32.toNatClampNeg (nI j)) (tt_A st 57 (Int32.toNatClampNeg (nI j)))) 74 (Int32.toNatClampNeg (nI j)) (tt_A (tt_pA st 73 (Int32.toNatClampNeg (nI j)) (tt_A st 57 (Int32.toNatClampNeg (nI j)))) 58 (Int32.toNatClampNeg (nI j)))) 75 (Int32.toNatClampNeg (nI j)) (tt_A (tt_pA (tt_pA st 73 (Int32.toNatClampNeg (nI j)) (tt_A st 57 (Int32.toNatClampNeg (nI j)))) 74 (Int32.toNatClampNeg (nI j)) (tt_A (tt_pA st 73 (Int32.toNatClampNeg (nI j)) (tt_A st 57 (Int32.toNatClampNeg (nI j)))) 58 (Int32.toNatClampNeg (nI j)))) 59 (Int32.toNatClampNeg (nI j)))) (by omega) (by simpa only [mo_image_l133] using k))
def mo_image (st : tt_St) : Int32 × tt_St := (if (tt_I st 49 1) = 0 then ((-10103), st) else ((tt_I (mo_image_l133 6 0 (mo_image_l107 36 0 (mo_image_l34 4 0 (tt_pI (tt_pI (tt_pI st 49 26 1) 49 27 (tt_I (tt_pI st 49 26 1) 49 0)) 49 28 (tt_I (tt_pI (tt_pI st 49 26 1) 49 27 (tt_I (tt_pI st 49 26 1) 49 0)) 49 9))))) 49 1), (mo_image_l133 6 0 (mo_image_l107 36 0 (mo_image_l34 4 0 (tt_pI (tt_pI (tt_pI st 49 26 1) 49 27 (tt_I (tt_pI st 49 26 1) 49 0)) 49 28 (tt_I (tt_pI (tt_pI st 49 26 1) 49 27 (tt_I (tt_pI st 49 26 1) 49 0)) 49 9)))))))
set_option maxHeartbeats 4000000 in
set_option maxRecDepth 20000 in
theorem c_mo_image (G : tt_G) (st : tt_St)   : tt_C y_mo_image prog_7_method_69_code 2 (some .int) 0 0 G [.ref (tt_ad G 49)] st (some (.int (mo_image st).1)) (mo_image st).2 := by
  refine tt_enter (α := Int32 × tt_St) (mk := fun r => (some (.int r.1), r.2)) (T := (mo_image st)) (by decide +kernel) (Nat.le_of_ble_eq_true rfl) (fun κ hC hR => ?_)
  rw [mo_image]
  refine r_aload_n 0 hC d_mo_image_0 rfl ?_
  refine r_getI hC d_mo_image_1 fl_mo_138 rfl rfl ?_
  refine r_if_ne (tgt := 11) hC d_mo_image_4 (by decide) (fun c_4 => ?_) (fun c_4 => ?_)
  ·
    refine r_aload_n 0 hC d_mo_image_11 rfl ?_
    refine r_iconst (v := 1) hC d_mo_image_12 (by decide) ?_
    refine r_putI hC d_mo_image_13 fl_mo_257 fp_5_26 rfl rfl rfl rfl ?_
    refine r_aload_n 0 hC d_mo_image_16 rfl ?_
    refine r_aload_n 0 hC d_mo_image_17 rfl ?_
    refine r_getI hC d_mo_image_18 fl_mo_141 rfl rfl ?_
    refine r_putI hC d_mo_image_21 fl_mo_260 fp_5_27 rfl rfl rfl rfl ?_
    refine r_aload_n 0 hC d_mo_image_24 rfl ?_
    refine r_aload_n 0 hC d_mo_image_25 rfl ?_
    refine r_getI hC d_mo_image_26 fl_mo_144 rfl rfl ?_
    refine r_putI hC d_mo_image_29 fl_mo_263 fp_5_28 rfl rfl rfl rfl ?_
    refine r_iconst (v := 0) hC d_mo_image_32 (by decide) ?_
    refine r_istore_n [(1, .int 0), (0, .ref (tt_ad G 49))] hC d_mo_image_33 rfl (by decide) rfl ?_
    refine tt_cast [1, 0] rfl rfl (l_mo_image_34 hC   4 0 (tt_pI (tt_pI (tt_pI st 49 26 1) 49 27 (tt_I (tt_pI st 49 26 1) 49 0)) 49 28 (tt_I (tt_pI (tt_pI st 49 26 1) 49 27 (tt_I (tt_pI st 49 26 1) 49 0)) 49 9)) (by omega)  ?_)
    refine r_iconst (v := 0) hC d_mo_image_105 (by decide) ?_
    refine r_istore_n [(1, .int 0), (0, .ref (tt_ad G 49))] hC d_mo_image_106 rfl (by decide) rfl ?_
    refine tt_cast [1, 0] rfl rfl (l_mo_image_107 hC   36 0 (mo_image_l34 4 0 (tt_pI (tt_pI (tt_pI st 49 26 1) 49 27 (tt_I (tt_pI st 49 26 1) 49 0)) 49 28 (tt_I (tt_pI (tt_pI st 49 26 1) 49 27 (tt_I (tt_pI st 49 26 1) 49 0)) 49 9))) (by omega)  ?_)
    refine r_iconst (v := 0) hC d_mo_image_131 (by decide) ?_
    refine r_istore_n [(1, .int 0), (0, .ref (tt_ad G 49))] hC d_mo_image_132 rfl (by decide) rfl ?_
    refine tt_cast [1, 0] rfl rfl (l_mo_image_133 hC   6 0 (mo_image_l107 36 0 (mo_image_l34 4 0 (tt_pI (tt_pI (tt_pI st 49 26 1) 49 27 (tt_I (tt_pI st 49 26 1) 49 0)) 49 28 (tt_I (tt_pI (tt_pI st 49 26 1) 49 27 (tt_I (tt_pI st 49 26 1) 49 0)) 49 9)))) (by omega)  ?_)
    refine r_aload_n 0 hC d_mo_image_181 rfl ?_
    refine r_getI hC d_mo_image_182 fl_mo_138 rfl rfl ?_
    exact r_iret hC hR d_mo_image_185 rfl rfl
  ·
    refine r_sipush (v := (-10103)) hC d_mo_image_7 (by decide) ?_
    exact r_iret hC hR d_mo_image_10 rfl rfl
/-! TideTableModel.restore()I -/
def mo_restore_l32  : Nat → Nat → tt_St → tt_St
  | 0, j, st => st
  | n + 1, j, st => (mo_restore_l32 n (j + 1) (tt_pA (tt_pA (tt_pA (tt_pA (tt_pA st 50 (Int32.toNatClampNeg (nI j)) (tt_A st 67 (Int32.toNatClampNeg (nI j)))) 51 (Int32.toNatClampNeg (nI j)) (tt_A (tt_pA st 50 (Int32.toNatClampNeg (nI j)) (tt_A st 67 (Int32.toNatClampNeg (nI j)))) 68 (Int32.toNatClampNeg (nI j)))) 52 (Int32.toNatClampNeg (nI j)) (tt_A (tt_pA (tt_pA st 50 (Int32.toNatClampNeg (nI j)) (tt_A st 67 (Int32.toNatClampNeg (nI j)))) 51 (Int32.toNatClampNeg (nI j)) (tt_A (tt_pA st 50 (Int32.toNatClampNeg (nI j)) (tt_A st 67 (Int32.toNatClampNeg (nI j)))) 68 (Int32.toNatClampNeg (nI j)))) 69 (Int32.toNatClampNeg (nI j)))) 53 (Int32.toNatClampNeg (nI j)) (tt_A (tt_pA (tt_pA (tt_pA st 50 (Int32.toNatClampNeg (nI j)) (tt_A st 67 (Int32.toNatClampNeg (nI j)))) 51 (Int32.toNatClampNeg (nI j)) (tt_A (tt_pA st 50 (Int32.toNatClampNeg (nI j)) (tt_A st 67 (Int32.toNatClampNeg (nI j)))) 68 (Int32.toNatClampNeg (nI j)))) 52 (Int32.toNatClampNeg (nI j)) (tt_A (tt_pA (tt_pA st 50 (Int32.toNatClampNeg (nI j)) (tt_A st 67 (Int32.toNatClampNeg (nI j)))) 51 (Int32.toNatClampNeg (nI j)) (tt_A (tt_pA st 50 (Int32.toNatClampNeg (nI j)) (tt_A st 67 (Int32.toNatClampNeg (nI j)))) 68 (Int32.toNatClampNeg (nI j)))) 69 (Int32.toNatClampNeg (nI j)))) 70 (Int32.toNatClampNeg (nI j)))) 54 (Int32.toNatClampNeg (nI j)) (tt_A (tt_pA (tt_pA (tt_pA (tt_pA st 50 (Int32.toNatClampNeg (nI j)) (tt_A st 67 (Int32.toNatClampNeg (nI j)))) 51 (Int32.toNatClampNeg (nI j)) (tt_A (tt_pA st 50 (Int32.toNatClampNeg (nI j)) (tt_A st 67 (Int32.toNatClampNeg (nI j)))) 68 (Int32.toNatClampNeg (nI j)))) 52 (Int32.toNatClampNeg (nI j)) (tt_A (tt_pA (tt_pA st 50 (Int32.toNatClampNeg (nI j)) (tt_A st 67 (Int32.toNatClampNeg (nI j)))) 51 (Int32.toNatClampNeg (nI j)) (tt_A (tt_pA st 50 (Int32.toNatClampNeg (nI j)) (tt_A st 67 (Int32.toNatClampNeg (nI j)))) 68 (Int32.toNatClampNeg (nI j)))) 69 (Int32.toNatClampNeg (nI j)))) 53 (Int32.toNatClampNeg (nI j)) (tt_A (tt_pA (tt_pA (tt_pA st 50 (Int32.toNatClampNeg (nI j)) (tt_A st 67 (Int32.toNatClampNeg (nI j)))) 51 (Int32.toNatClampNeg (nI j)) (tt_A (tt_pA st 50 (Int32.toNatClampNeg (nI j)) (tt_A st 67 (Int32.toNatClampNeg (nI j)))) 68 (Int32.toNatClampNeg (nI j)))) 52 (Int32.toNatClampNeg (nI j)) (tt_A (tt_pA (tt_pA st 50 (Int32.toNatClampNeg (nI j)) (tt_A st 67 (Int32.toNatClampNeg (nI j)))) 51 (Int32.toNatClampNeg (nI j)) (tt_A (tt_pA st 50 (Int32.toNatClampNeg (nI j)) (tt_A st 67 (Int32.toNatClampNeg (nI j)))) 68 (Int32.toNatClampNeg (nI j)))) 69 (Int32.toNatClampNeg (nI j)))) 70 (Int32.toNatClampNeg (nI j)))) 71 (Int32.toNatClampNeg (nI j)))))
set_option maxHeartbeats 4000000 in
set_option maxRecDepth 20000 in
theorem l_mo_restore_32 {α : Type} {G : tt_G} {κ : tt_X α} {T : α} (hC : tt_Cx G κ prog_7_method_70_code "TideTableModel" 2 0 0)   : ∀ (n j : Nat) (st : tt_St), j + n = 4 → tt_V G κ T (mo_restore_l32 n j st) 103 [(0, .ref (tt_ad G 49))] [] → tt_V G κ T st 32 [(0, .ref (tt_ad G 49)), (1, .int (nI j))] [] := by
  intro n
  induction n with
  | zero =>
    intro j st hj k
    refine r_iload_n 1 hC d_mo_restore_32 rfl ?_
    refine r_iconst (v := 4) hC d_mo_restore_33 (by decide) ?_
    refine t_icmp_ge (tgt := 103) hC d_mo_restore_34 (by decide) (nI_le (a := 4) (by omega) (by omega)) ?_
    exact tt_cast [0] rfl rfl k
  | succ n ih =>
    intro j st hj k
    refine r_iload_n 1 hC d_mo_restore_32 rfl ?_
    refine r_iconst (v := 4) hC d_mo_restore_33 (by decide) ?_
    refine f_icmp_ge (tgt := 103) hC d_mo_restore_34 (by decide) (nI_ge (a := j) (b := 4) (by omega) (by omega)) ?_
    refine r_aload_n 0 hC d_mo_restore_37 rfl ?_
    refine r_getR (r := 50) hC d_mo_restore_38 fl_mo_7 rfl rfl rfl ?_
    refine r_iload_n 1 hC d_mo_restore_41 rfl ?_
    refine r_aload_n 0 hC d_mo_restore_42 rfl ?_
    refine r_getR (r := 67) hC d_mo_restore_43 fl_mo_62 rfl rfl rfl ?_
    refine r_iload_n 1 hC d_mo_restore_46 rfl ?_
    refine r_iald (n := 4) hC d_mo_restore_47 rfl (by decide) rfl rfl (vp_in_nI (by omega) (by omega)) ?_
    refine r_iast (n := 4) hC d_mo_restore_48 rfl (by decide) rfl rfl (vp_in_nI (by omega) (by omega)) ?_
    refine r_aload_n 0 hC d_mo_restore_49 rfl ?_
    refine r_getR (r := 51) hC d_mo_restore_50 fl_mo_13 rfl rfl rfl ?_
    refine r_iload_n 1 hC d_mo_restore_53 rfl ?_
    refine r_aload_n 0 hC d_mo_restore_54 rfl ?_
    refine r_getR (r := 68) hC d_mo_restore_55 fl_mo_65 rfl rfl rfl ?_
    refine r_iload_n 1 hC d_mo_restore_58 rfl ?_
    refine r_iald (n := 4) hC d_mo_restore_59 rfl (by decide) rfl rfl (vp_in_nI (by omega) (by omega)) ?_
    refine r_iast (n := 4) hC d_mo_restore_60 rfl (by decide) rfl rfl (vp_in_nI (by omega) (by omega)) ?_
    refine r_aload_n 0 hC d_mo_restore_61 rfl ?_
    refine r_getR (r := 52) hC d_mo_restore_62 fl_mo_16 rfl rfl rfl ?_
    refine r_iload_n 1 hC d_mo_restore_65 rfl ?_
    refine r_aload_n 0 hC d_mo_restore_66 rfl ?_
    refine r_getR (r := 69) hC d_mo_restore_67 fl_mo_68 rfl rfl rfl ?_
    refine r_iload_n 1 hC d_mo_restore_70 rfl ?_
    refine r_iald (n := 4) hC d_mo_restore_71 rfl (by decide) rfl rfl (vp_in_nI (by omega) (by omega)) ?_
    refine r_iast (n := 4) hC d_mo_restore_72 rfl (by decide) rfl rfl (vp_in_nI (by omega) (by omega)) ?_
    refine r_aload_n 0 hC d_mo_restore_73 rfl ?_
    refine r_getR (r := 53) hC d_mo_restore_74 fl_mo_19 rfl rfl rfl ?_
    refine r_iload_n 1 hC d_mo_restore_77 rfl ?_
    refine r_aload_n 0 hC d_mo_restore_78 rfl ?_
    refine r_getR (r := 70) hC d_mo_restore_79 fl_mo_71 rfl rfl rfl ?_
    refine r_iload_n 1 hC d_mo_restore_82 rfl ?_
    refine r_iald (n := 4) hC d_mo_restore_83 rfl (by decide) rfl rfl (vp_in_nI (by omega) (by omega)) ?_
    refine r_iast (n := 4) hC d_mo_restore_84 rfl (by decide) rfl rfl (vp_in_nI (by omega) (by omega)) ?_
    refine r_aload_n 0 hC d_mo_restore_85 rfl ?_
    refine r_getR (r := 54) hC d_mo_restore_86 fl_mo_22 rfl rfl rfl ?_
    refine r_iload_n 1 hC d_mo_restore_89 rfl ?_
    refine r_aload_n 0 hC d_mo_restore_90 rfl ?_
    refine r_getR (r := 71) hC d_mo_restore_91 fl_mo_74 rfl rfl rfl ?_
    refine r_iload_n 1 hC d_mo_restore_94 rfl ?_
    refine r_iald (n := 4) hC d_mo_restore_95 rfl (by decide) rfl rfl (vp_in_nI (by omega) (by omega)) ?_
    refine r_iast (n := 4) hC d_mo_restore_96 rfl (by decide) rfl rfl (vp_in_nI (by omega) (by omega)) ?_
    refine r_iinc 1 (nI (j + 1)) [(1, .int (nI (j + 1))), (0, .ref (tt_ad G 49))] hC d_mo_restore_97 rfl (by rw [nI_succ]; rfl) (by decide) rfl ?_
    refine r_goto (tgt := 32) hC d_mo_restore_100 (by decide) ?_
    exact tt_cast [1, 0] rfl rfl (ih (j + 1) (tt_pA (tt_pA (tt_pA (tt_pA (tt_pA st 50 (Int32.toNatClampNeg (nI j)) (tt_A st 67 (Int32.toNatClampNeg (nI j)))) 51 (Int32.toNatClampNeg (nI j)) (tt_A (tt_pA st 50 (Int32.toNatClampNeg (nI j)) (tt_A st 67 (Int32.toNatClampNeg (nI j)))) 68 (Int32.toNatClampNeg (nI j)))) 52 (Int32.toNatClampNeg (nI j)) (tt_A (tt_pA (tt_pA st 50 (Int32.toNatClampNeg (nI j)) (tt_A st 67 (Int32.toNatClampNeg (nI j)))) 51 (Int32.toNatClampNeg (nI j)) (tt_A (tt_pA st 50 (Int32.toNatClampNeg (nI j)) (tt_A st 67 (Int32.toNatClampNeg (nI j)))) 68 (Int32.toNatClampNeg (nI j)))) 69 (Int32.toNatClampNeg (nI j)))) 53 (Int32.toNatClampNeg (nI j)) (tt_A (tt_pA (tt_pA (tt_pA st 50 (Int32.toNatClampNeg (nI j)) (tt_A st 67 (Int32.toNatClampNeg (nI j)))) 51 (Int32.toNatClampNeg (nI j)) (tt_A (tt_pA st 50 (Int32.toNatClampNeg (nI j)) (tt_A st 67 (Int32.toNatClampNeg (nI j)))) 68 (Int32.toNatClampNeg (nI j)))) 52 (Int32.toNatClampNeg (nI j)) (tt_A (tt_pA (tt_pA st 50 (Int32.toNatClampNeg (nI j)) (tt_A st 67 (Int32.toNatClampNeg (nI j)))) 51 (Int32.toNatClampNeg (nI j)) (tt_A (tt_pA st 50 (Int32.toNatClampNeg (nI j)) (tt_A st 67 (Int32.toNatClampNeg (nI j)))) 68 (Int32.toNatClampNeg (nI j)))) 69 (Int32.toNatClampNeg (nI j)))) 70 (Int32.toNatClampNeg (nI j)))) 54 (Int32.toNatClampNeg (nI j)) (tt_A (tt_pA (tt_pA (tt_pA (tt_pA st 50 (Int32.toNatClampNeg (nI j)) (tt_A st 67 (Int32.toNatClampNeg (nI j)))) 51 (Int32.toNatClampNeg (nI j)) (tt_A (tt_pA st 50 (Int32.toNatClampNeg (nI j)) (tt_A st 67 (Int32.toNatClampNeg (nI j)))) 68 (Int32.toNatClampNeg (nI j)))) 52 (Int32.toNatClampNeg (nI j)) (tt_A (tt_pA (tt_pA st 50 (Int32.toNatClampNeg (nI j)) (tt_A st 67 (Int32.toNatClampNeg (nI j)))) 51 (Int32.toNatClampNeg (nI j)) (tt_A (tt_pA st 50 (Int32.toNatClampNeg (nI j)) (tt_A st 67 (Int32.toNatClampNeg (nI j)))) 68 (Int32.toNatClampNeg (nI j)))) 69 (Int32.toNatClampNeg (nI j)))) 53 (Int32.toNatClampNeg (nI j)) (tt_A (tt_pA (tt_pA (tt_pA st 50 (Int32.toNatClampNeg (nI j)) (tt_A st 67 (Int32.toNatClampNeg (nI j)))) 51 (Int32.toNatClampNeg (nI j)) (tt_A (tt_pA st 50 (Int32.toNatClampNeg (nI j)) (tt_A st 67 (Int32.toNatClampNeg (nI j)))) 68 (Int32.toNatClampNeg (nI j)))) 52 (Int32.toNatClampNeg (nI j)) (tt_A (tt_pA (tt_pA st 50 (Int32.toNatClampNeg (nI j)) (tt_A st 67 (Int32.toNatClampNeg (nI j)))) 51 (Int32.toNatClampNeg (nI j)) (tt_A (tt_pA st 50 (Int32.toNatClampNeg (nI j)) (tt_A st 67 (Int32.toNatClampNeg (nI j)))) 68 (Int32.toNatClampNeg (nI j)))) 69 (Int32.toNatClampNeg (nI j)))) 70 (Int32.toNatClampNeg (nI j)))) 71 (Int32.toNatClampNeg (nI j)))) (by omega) (by simpa only [mo_restore_l32] using k))
def mo_restore_l105  : Nat → Nat → tt_St → tt_St
  | 0, j, st => st
  | n + 1, j, st => (mo_restore_l105 n (j + 1) (tt_pA st 55 (Int32.toNatClampNeg (nI j)) (tt_A st 72 (Int32.toNatClampNeg (nI j)))))
set_option maxHeartbeats 4000000 in
set_option maxRecDepth 20000 in
theorem l_mo_restore_105 {α : Type} {G : tt_G} {κ : tt_X α} {T : α} (hC : tt_Cx G κ prog_7_method_70_code "TideTableModel" 2 0 0)   : ∀ (n j : Nat) (st : tt_St), j + n = 36 → tt_V G κ T (mo_restore_l105 n j st) 129 [(0, .ref (tt_ad G 49))] [] → tt_V G κ T st 105 [(0, .ref (tt_ad G 49)), (1, .int (nI j))] [] := by
  intro n
  induction n with
  | zero =>
    intro j st hj k
    refine r_iload_n 1 hC d_mo_restore_105 rfl ?_
    refine r_bipush (v := 36) hC d_mo_restore_106 (by decide) ?_
    refine t_icmp_ge (tgt := 129) hC d_mo_restore_108 (by decide) (nI_le (a := 36) (by omega) (by omega)) ?_
    exact tt_cast [0] rfl rfl k
  | succ n ih =>
    intro j st hj k
    refine r_iload_n 1 hC d_mo_restore_105 rfl ?_
    refine r_bipush (v := 36) hC d_mo_restore_106 (by decide) ?_
    refine f_icmp_ge (tgt := 129) hC d_mo_restore_108 (by decide) (nI_ge (a := j) (b := 36) (by omega) (by omega)) ?_
    refine r_aload_n 0 hC d_mo_restore_111 rfl ?_
    refine r_getR (r := 55) hC d_mo_restore_112 fl_mo_25 rfl rfl rfl ?_
    refine r_iload_n 1 hC d_mo_restore_115 rfl ?_
    refine r_aload_n 0 hC d_mo_restore_116 rfl ?_
    refine r_getR (r := 72) hC d_mo_restore_117 fl_mo_77 rfl rfl rfl ?_
    refine r_iload_n 1 hC d_mo_restore_120 rfl ?_
    refine r_iald (n := 36) hC d_mo_restore_121 rfl (by decide) rfl rfl (vp_in_nI (by omega) (by omega)) ?_
    refine r_iast (n := 36) hC d_mo_restore_122 rfl (by decide) rfl rfl (vp_in_nI (by omega) (by omega)) ?_
    refine r_iinc 1 (nI (j + 1)) [(1, .int (nI (j + 1))), (0, .ref (tt_ad G 49))] hC d_mo_restore_123 rfl (by rw [nI_succ]; rfl) (by decide) rfl ?_
    refine r_goto (tgt := 105) hC d_mo_restore_126 (by decide) ?_
    exact tt_cast [1, 0] rfl rfl (ih (j + 1) (tt_pA st 55 (Int32.toNatClampNeg (nI j)) (tt_A st 72 (Int32.toNatClampNeg (nI j)))) (by omega) (by simpa only [mo_restore_l105] using k))
def mo_restore_l131  : Nat → Nat → tt_St → tt_St
  | 0, j, st => st
  | n + 1, j, st => (mo_restore_l131 n (j + 1) (tt_pA (tt_pA (tt_pA st 57 (Int32.toNatClampNeg (nI j)) (tt_A st 73 (Int32.toNatClampNeg (nI j)))) 58 (Int32.toNatClampNeg (nI j)) (tt_A (tt_pA st 57 (Int32.toNatClampNeg (nI j)) (tt_A st 73 (Int32.toNatClampNeg (nI j)))) 74 (Int32.toNatClampNeg (nI j)))) 59 (Int32.toNatClampNeg (nI j)) (tt_A (tt_pA (tt_pA st 57 (Int32.toNatClampNeg (nI j)) (tt_A st 73 (Int32.toNatClampNeg (nI j)))) 58 (Int32.toNatClampNeg (nI j)) (tt_A (tt_pA st 57 (Int32.toNatClampNeg (nI j)) (tt_A st 73 (Int32.toNatClampNeg (nI j)))) 74 (Int32.toNatClampNeg (nI j)))) 75 (Int32.toNatClampNeg (nI j)))))
set_option maxHeartbeats 4000000 in
set_option maxRecDepth 20000 in
theorem l_mo_restore_131 {α : Type} {G : tt_G} {κ : tt_X α} {T : α} (hC : tt_Cx G κ prog_7_method_70_code "TideTableModel" 2 0 0)   : ∀ (n j : Nat) (st : tt_St), j + n = 6 → tt_V G κ T (mo_restore_l131 n j st) 179 [(0, .ref (tt_ad G 49))] [] → tt_V G κ T st 131 [(0, .ref (tt_ad G 49)), (1, .int (nI j))] [] := by
  intro n
  induction n with
  | zero =>
    intro j st hj k
    refine r_iload_n 1 hC d_mo_restore_131 rfl ?_
    refine r_bipush (v := 6) hC d_mo_restore_132 (by decide) ?_
    refine t_icmp_ge (tgt := 179) hC d_mo_restore_134 (by decide) (nI_le (a := 6) (by omega) (by omega)) ?_
    exact tt_cast [0] rfl rfl k
  | succ n ih =>
    intro j st hj k
    refine r_iload_n 1 hC d_mo_restore_131 rfl ?_
    refine r_bipush (v := 6) hC d_mo_restore_132 (by decide) ?_
    refine f_icmp_ge (tgt := 179) hC d_mo_restore_134 (by decide) (nI_ge (a := j) (b := 6) (by omega) (by omega)) ?_
    refine r_aload_n 0 hC d_mo_restore_137 rfl ?_
    refine r_getR (r := 57) hC d_mo_restore_138 fl_mo_31 rfl rfl rfl ?_
    refine r_iload_n 1 hC d_mo_restore_141 rfl ?_
    refine r_aload_n 0 hC d_mo_restore_142 rfl ?_
    refine r_getR (r := 73) hC d_mo_restore_143 fl_mo_80 rfl rfl rfl ?_
    refine r_iload_n 1 hC d_mo_restore_146 rfl ?_
    refine r_iald (n := 6) hC d_mo_restore_147 rfl (by decide) rfl rfl (vp_in_nI (by omega) (by omega)) ?_
    refine r_iast (n := 6) hC d_mo_restore_148 rfl (by decide) rfl rfl (vp_in_nI (by omega) (by omega)) ?_
    refine r_aload_n 0 hC d_mo_restore_149 rfl ?_
    refine r_getR (r := 58) hC d_mo_restore_150 fl_mo_34 rfl rfl rfl ?_
    refine r_iload_n 1 hC d_mo_restore_153 rfl ?_
    refine r_aload_n 0 hC d_mo_restore_154 rfl ?_
    refine r_getR (r := 74) hC d_mo_restore_155 fl_mo_83 rfl rfl rfl ?_
    refine r_iload_n 1 hC d_mo_restore_158 rfl ?_
    refine r_iald (n := 6) hC d_mo_restore_159 rfl (by decide) rfl rfl (vp_in_nI (by omega) (by omega)) ?_
    refine r_iast (n := 6) hC d_mo_restore_160 rfl (by decide) rfl rfl (vp_in_nI (by omega) (by omega)) ?_
    refine r_aload_n 0 hC d_mo_restore_161 rfl ?_
    refine r_getR (r := 59) hC d_mo_restore_162 fl_mo_37 rfl rfl rfl ?_
    refine r_iload_n 1 hC d_mo_restore_165 rfl ?_
    refine r_aload_n 0 hC d_mo_restore_166 rfl ?_
    refine r_getR (r := 75) hC d_mo_restore_167 fl_mo_86 rfl rfl rfl ?_
    refine r_iload_n 1 hC d_mo_restore_170 rfl ?_
    refine r_iald (n := 6) hC d_mo_restore_171 rfl (by decide) rfl rfl (vp_in_nI (by omega) (by omega)) ?_
    refine r_iast (n := 6) hC d_mo_restore_172 rfl (by decide) rfl rfl (vp_in_nI (by omega) (by omega)) ?_
    refine r_iinc 1 (nI (j + 1)) [(1, .int (nI (j + 1))), (0, .ref (tt_ad G 49))] hC d_mo_restore_173 rfl (by rw [nI_succ]; rfl) (by decide) rfl ?_
    refine r_goto (tgt := 131) hC d_mo_restore_176 (by decide) ?_
    exact tt_cast [1, 0] rfl rfl (ih (j + 1) (tt_pA (tt_pA (tt_pA st 57 (Int32.toNatClampNeg (nI j)) (tt_A st 73 (Int32.toNatClampNeg (nI j)))) 58 (Int32.toNatClampNeg (nI j)) (tt_A (tt_pA st 57 (Int32.toNatClampNeg (nI j)) (tt_A st 73 (Int32.toNatClampNeg (nI j)))) 74 (Int32.toNatClampNeg (nI j)))) 59 (Int32.toNatClampNeg (nI j)) (tt_A (tt_pA (tt_pA st 57 (Int32.toNatClampNeg (nI j)) (tt_A st 73 (Int32.toNatClampNeg (nI j)))) 58 (Int32.toNatClampNeg (nI j)) (tt_A (tt_pA st 57 (Int32.toNatClampNeg (nI j)) (tt_A st 73 (Int32.toNatClampNeg (nI j)))) 74 (Int32.toNatClampNeg (nI j)))) 75 (Int32.toNatClampNeg (nI j)))) (by omega) (by simpa only [mo_restore_l131] using k))
def mo_restore (st : tt_St) : Int32 × tt_St := (if (tt_I st 49 26) = 0 then ((-10103), st) else (if (tt_I st 49 27) = (tt_I st 49 0) then ((tt_I (mo_restore_l131 6 0 (mo_restore_l105 36 0 (mo_restore_l32 4 0 (tt_pI st 49 9 (tt_I st 49 28))))) 49 1), (mo_restore_l131 6 0 (mo_restore_l105 36 0 (mo_restore_l32 4 0 (tt_pI st 49 9 (tt_I st 49 28)))))) else ((-10103), st)))
set_option maxHeartbeats 4000000 in
set_option maxRecDepth 20000 in
theorem c_mo_restore (G : tt_G) (st : tt_St)   : tt_C y_mo_restore prog_7_method_70_code 2 (some .int) 0 0 G [.ref (tt_ad G 49)] st (some (.int (mo_restore st).1)) (mo_restore st).2 := by
  refine tt_enter (α := Int32 × tt_St) (mk := fun r => (some (.int r.1), r.2)) (T := (mo_restore st)) (by decide +kernel) (Nat.le_of_ble_eq_true rfl) (fun κ hC hR => ?_)
  rw [mo_restore]
  refine r_aload_n 0 hC d_mo_restore_0 rfl ?_
  refine r_getI hC d_mo_restore_1 fl_mo_257 rfl rfl ?_
  refine r_if_eq (tgt := 18) hC d_mo_restore_4 (by decide) (fun c_4 => ?_) (fun c_4 => ?_)
  ·
    refine r_sipush (v := (-10103)) hC d_mo_restore_18 (by decide) ?_
    exact r_iret hC hR d_mo_restore_21 rfl rfl
  ·
    refine r_aload_n 0 hC d_mo_restore_7 rfl ?_
    refine r_getI hC d_mo_restore_8 fl_mo_260 rfl rfl ?_
    refine r_aload_n 0 hC d_mo_restore_11 rfl ?_
    refine r_getI hC d_mo_restore_12 fl_mo_141 rfl rfl ?_
    refine r_icmp_eq (tgt := 22) hC d_mo_restore_15 (by decide) (fun c_15 => ?_) (fun c_15 => ?_)
    ·
      refine r_aload_n 0 hC d_mo_restore_22 rfl ?_
      refine r_aload_n 0 hC d_mo_restore_23 rfl ?_
      refine r_getI hC d_mo_restore_24 fl_mo_263 rfl rfl ?_
      refine r_putI hC d_mo_restore_27 fl_mo_144 fp_5_9 rfl rfl rfl rfl ?_
      refine r_iconst (v := 0) hC d_mo_restore_30 (by decide) ?_
      refine r_istore_n [(1, .int 0), (0, .ref (tt_ad G 49))] hC d_mo_restore_31 rfl (by decide) rfl ?_
      refine tt_cast [1, 0] rfl rfl (l_mo_restore_32 hC   4 0 (tt_pI st 49 9 (tt_I st 49 28)) (by omega)  ?_)
      refine r_iconst (v := 0) hC d_mo_restore_103 (by decide) ?_
      refine r_istore_n [(1, .int 0), (0, .ref (tt_ad G 49))] hC d_mo_restore_104 rfl (by decide) rfl ?_
      refine tt_cast [1, 0] rfl rfl (l_mo_restore_105 hC   36 0 (mo_restore_l32 4 0 (tt_pI st 49 9 (tt_I st 49 28))) (by omega)  ?_)
      refine r_iconst (v := 0) hC d_mo_restore_129 (by decide) ?_
      refine r_istore_n [(1, .int 0), (0, .ref (tt_ad G 49))] hC d_mo_restore_130 rfl (by decide) rfl ?_
      refine tt_cast [1, 0] rfl rfl (l_mo_restore_131 hC   6 0 (mo_restore_l105 36 0 (mo_restore_l32 4 0 (tt_pI st 49 9 (tt_I st 49 28)))) (by omega)  ?_)
      refine r_aload_n 0 hC d_mo_restore_179 rfl ?_
      refine r_getI hC d_mo_restore_180 fl_mo_138 rfl rfl ?_
      exact r_iret hC hR d_mo_restore_183 rfl rfl
    ·
      refine r_sipush (v := (-10103)) hC d_mo_restore_18 (by decide) ?_
      exact r_iret hC hR d_mo_restore_21 rfl rfl
/-! TideTableModel.mix(J)V -/
def mo_mix (st : tt_St) (a1 : Int64) : tt_St := tt_pL st 49 38 ((31 * (tt_L st 49 38)) + a1)
set_option maxHeartbeats 4000000 in
set_option maxRecDepth 20000 in
theorem c_mo_mix (G : tt_G) (st : tt_St) (a1 : Int64)  : tt_C y_mo_mix prog_7_method_75_code 3 none 0 0 G [.ref (tt_ad G 49), .long a1] st none (mo_mix st a1) := by
  refine tt_enter (α := tt_St) (mk := fun r => (none, r)) (T := (mo_mix st a1)) (by decide +kernel) (Nat.le_of_ble_eq_true rfl) (fun κ hC hR => ?_)
  rw [mo_mix]
  refine r_aload_n 0 hC d_mo_mix_0 rfl ?_
  refine r_ldc2 hC d_mo_mix_1 k_mo_276 ?_
  refine r_aload_n 0 hC d_mo_mix_4 rfl ?_
  refine r_getL hC d_mo_mix_5 fl_mo_278 rfl rfl ?_
  refine r_lmul hC d_mo_mix_8 ?_
  refine r_lload_n 1 hC d_mo_mix_9 rfl ?_
  refine r_ladd hC d_mo_mix_10 ?_
  refine r_putL hC d_mo_mix_11 fl_mo_278 fp_5_38 rfl rfl ?_
  exact r_vret hC hR d_mo_mix_14 rfl

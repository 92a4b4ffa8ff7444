/-! TideTable.nextToAsk(I)I -/
def tb_nextToAsk_l12 (a1 : Int32) : Nat → Nat → Int32 → Int32
  | 0, j, x1 => x1
  | n + 1, j, x1 => (tb_nextToAsk_l12 a1 n (j + 1) (if (tb_leftAtWorst a1 (tt_sv 1 (Int32.toNatClampNeg x1))) ≤ (tb_leftAtWorst a1 (tt_sv 1 (Int32.toNatClampNeg (nI j)))) then x1 else (nI j) : Int32))
set_option maxHeartbeats 4000000 in
set_option maxRecDepth 20000 in
theorem l_tb_nextToAsk_12 {α : Type} {G : tt_G} {κ : tt_X α} {T : α} (hC : tt_Cx G κ prog_1_method_36_code "TideTable" 3 2 42) (a1 : Int32) (st : tt_St)  : ∀ (n j : Nat) (x1 : Int32), j + n = 4 → 0 ≤ x1.toInt ∧ x1.toInt < 4 → tt_V G κ T st 49 [(1, .int (tb_nextToAsk_l12 a1 n j x1))] [] → tt_V G κ T st 12 [(0, .int a1), (1, .int x1), (2, .int (nI j))] [] := by
  intro n
  induction n with
  | zero =>
    intro j x1 hj hx k
    refine r_iload_n 2 hC d_tb_nextToAsk_12 rfl ?_
    refine r_gets (j := 1) hC d_tb_nextToAsk_13 (by decide) gs_tb_152 ?_
    refine r_tlen (v := 4) hC d_tb_nextToAsk_16 (by decide) (by decide) ?_
    refine t_icmp_ge (tgt := 49) hC d_tb_nextToAsk_17 (by decide) (nI_le (a := 4) (by omega) (by omega)) ?_
    exact tt_cast [1] rfl rfl k
  | succ n ih =>
    intro j x1 hj hx k
    refine r_iload_n 2 hC d_tb_nextToAsk_12 rfl ?_
    refine r_gets (j := 1) hC d_tb_nextToAsk_13 (by decide) gs_tb_152 ?_
    refine r_tlen (v := 4) hC d_tb_nextToAsk_16 (by decide) (by decide) ?_
    refine f_icmp_ge (tgt := 49) hC d_tb_nextToAsk_17 (by decide) (nI_ge (a := j) (b := 4) (by omega) (by omega)) ?_
    refine r_iload_n 0 hC d_tb_nextToAsk_20 rfl ?_
    refine r_gets (j := 1) hC d_tb_nextToAsk_21 (by decide) gs_tb_152 ?_
    refine r_iload_n 2 hC d_tb_nextToAsk_24 rfl ?_
    refine r_tald hC d_tb_nextToAsk_25 (by decide) (show vp_in (nI j) 4 from vp_in_nI (by omega) (by omega)) ?_
    refine r_callS (rest := []) (stk1 := [.int (tb_leftAtWorst a1 (tt_sv 1 (Int32.toNatClampNeg (nI j))))]) hC d_tb_nextToAsk_26 (c_tb_leftAtWorst G st a1 (tt_sv 1 (Int32.toNatClampNeg (nI j)))) mw_tb_leftAtWorst ms_tb_leftAtWorst ml_tb_200 rfl rfl rfl (Nat.le_of_ble_eq_true rfl) rfl ?_
    refine r_iload_n 0 hC d_tb_nextToAsk_29 rfl ?_
    refine r_gets (j := 1) hC d_tb_nextToAsk_30 (by decide) gs_tb_152 ?_
    refine r_iload_n 1 hC d_tb_nextToAsk_33 rfl ?_
    refine r_tald hC d_tb_nextToAsk_34 (by decide) (show vp_in x1 4 from tt_in hx.1 hx.2) ?_
    refine r_callS (rest := [.int (tb_leftAtWorst a1 (tt_sv 1 (Int32.toNatClampNeg (nI j))))]) (stk1 := [.int (tb_leftAtWorst a1 (tt_sv 1 (Int32.toNatClampNeg x1))), .int (tb_leftAtWorst a1 (tt_sv 1 (Int32.toNatClampNeg (nI j))))]) hC d_tb_nextToAsk_35 (c_tb_leftAtWorst G st a1 (tt_sv 1 (Int32.toNatClampNeg x1))) mw_tb_leftAtWorst ms_tb_leftAtWorst ml_tb_200 rfl rfl rfl (Nat.le_of_ble_eq_true rfl) rfl ?_
    refine tt_join 43 [(0, .int a1), (1, .int (if (tb_leftAtWorst a1 (tt_sv 1 (Int32.toNatClampNeg x1))) ≤ (tb_leftAtWorst a1 (tt_sv 1 (Int32.toNatClampNeg (nI j)))) then x1 else (nI j) : Int32)), (2, .int (nI j))] [] ?_ (fun kj_38 => ?_)
    ·
      refine r_iinc 2 (nI (j + 1)) [(2, .int (nI (j + 1))), (0, .int a1), (1, .int (if (tb_leftAtWorst a1 (tt_sv 1 (Int32.toNatClampNeg x1))) ≤ (tb_leftAtWorst a1 (tt_sv 1 (Int32.toNatClampNeg (nI j)))) then x1 else (nI j) : Int32))] hC d_tb_nextToAsk_43 rfl (by rw [nI_succ]; rfl) (by decide) rfl ?_
      refine r_goto (tgt := 12) hC d_tb_nextToAsk_46 (by decide) ?_
      exact tt_cast [1, 2, 0] rfl rfl (ih (j + 1) (if (tb_leftAtWorst a1 (tt_sv 1 (Int32.toNatClampNeg x1))) ≤ (tb_leftAtWorst a1 (tt_sv 1 (Int32.toNatClampNeg (nI j)))) then x1 else (nI j) : Int32) (by omega) (tt_iteQ (fun r : Int32 => 0 ≤ r.toInt ∧ r.toInt < 4) hx (by rw [nI_toInt (by omega)]; omega)) (by simpa only [tb_nextToAsk_l12] using k))
    ·
      refine j_icmp_ge (tgt := 43) hC d_tb_nextToAsk_38 (by decide) (fun c_38 => ?_) (fun c_38 => ?_)
      ·
        exact tt_cast [0, 1, 2] (by simp only [if_pos c_38]; rfl) rfl kj_38
      ·
        refine r_iload_n 2 hC d_tb_nextToAsk_41 rfl ?_
        refine r_istore_n [(1, .int (nI j)), (0, .int a1), (2, .int (nI j))] hC d_tb_nextToAsk_42 rfl (by decide) rfl ?_
        exact tt_cast [1, 0, 2] (by simp only [if_neg c_38]; rfl) rfl kj_38
def tb_nextToAsk (a1 : Int32) : Int32 := (if a1 = 0 then (-10001) else (tb_nextToAsk_l12 a1 3 1 0))
set_option maxHeartbeats 4000000 in
set_option maxRecDepth 20000 in
theorem c_tb_nextToAsk (G : tt_G) (st : tt_St) (a1 : Int32)  : tt_C y_tb_nextToAsk prog_1_method_36_code 3 (some .int) 2 42 G [.int a1] st (some (.int (tb_nextToAsk a1))) st := by
  refine tt_enter_pi (T := (tb_nextToAsk a1)) (by decide +kernel) (Nat.le_of_ble_eq_true rfl) (fun κ hC hR => ?_)
  rw [tb_nextToAsk]
  refine r_iload_n 0 hC d_tb_nextToAsk_0 rfl ?_
  refine r_if_ne (tgt := 8) hC d_tb_nextToAsk_1 (by decide) (fun c_1 => ?_) (fun c_1 => ?_)
  ·
    refine r_iconst (v := 0) hC d_tb_nextToAsk_8 (by decide) ?_
    refine r_istore_n [(1, .int 0), (0, .int a1)] hC d_tb_nextToAsk_9 rfl (by decide) rfl ?_
    refine r_iconst (v := 1) hC d_tb_nextToAsk_10 (by decide) ?_
    refine r_istore_n [(2, .int 1), (1, .int 0), (0, .int a1)] hC d_tb_nextToAsk_11 rfl (by decide) rfl ?_
    refine tt_cast [2, 1, 0] rfl rfl (l_tb_nextToAsk_12 hC a1 st  3 1 0 (by omega) (by decide) ?_)
    refine r_iload_n 0 hC d_tb_nextToAsk_49 rfl ?_
    exact r_iret_pi hC hR d_tb_nextToAsk_50 rfl
  ·
    refine r_sipush (v := (-10001)) hC d_tb_nextToAsk_4 (by decide) ?_
    exact r_iret_pi hC hR d_tb_nextToAsk_7 rfl
/-! TideTable.letter(I)I -/
def tb_letter (st : tt_St) (a1 : Int32) : Int32 × tt_St := (if (tb_within a1 32 126) = 0 then ((-10102), st) else (if (tt_I st 1 1) < 96 then ((tt_I (tt_pI (tt_pA st 2 (Int32.toNatClampNeg (tt_I st 1 1)) a1) 1 1 ((tt_I (tt_pA st 2 (Int32.toNatClampNeg (tt_I st 1 1)) a1) 1 1) + 1)) 1 1), tt_pI (tt_pA st 2 (Int32.toNatClampNeg (tt_I st 1 1)) a1) 1 1 ((tt_I (tt_pA st 2 (Int32.toNatClampNeg (tt_I st 1 1)) a1) 1 1) + 1)) else ((-10104), st)))
set_option maxHeartbeats 4000000 in
set_option maxRecDepth 20000 in
theorem c_tb_letter (G : tt_G) (st : tt_St) (a1 : Int32) (hI : tb_ok st) : tt_C y_tb_letter prog_1_method_2_code 2 (some .int) 1 22 G [.ref (tt_ad G 0), .int a1] st (some (.int (tb_letter st a1).1)) (tb_letter st a1).2 := by
  refine tt_enter_si (T := (tb_letter st a1)) (by decide +kernel) (Nat.le_of_ble_eq_true rfl) (fun κ hC hR => ?_)
  rw [tb_letter]
  refine r_iload_n 1 hC d_tb_letter_0 rfl ?_
  refine r_bipush (v := 32) hC d_tb_letter_1 (by decide) ?_
  refine r_bipush (v := 126) hC d_tb_letter_3 (by decide) ?_
  refine r_callS (rest := []) (stk1 := [.int (tb_within a1 32 126)]) hC d_tb_letter_5 (c_tb_within G st a1 32 126) mw_tb_within ms_tb_within ml_tb_33 rfl rfl rfl (Nat.le_of_ble_eq_true rfl) rfl ?_
  refine r_if_ne (tgt := 15) hC d_tb_letter_8 (by decide) (fun c_8 => ?_) (fun c_8 => ?_)
  ·
    refine r_aload_n 0 hC d_tb_letter_15 rfl ?_
    refine r_getR (r := 1) hC d_tb_letter_16 fl_tb_12 rfl rfl rfl ?_
    refine r_getI hC d_tb_letter_19 fl_tb_37 rfl rfl ?_
    refine r_bipush (v := 96) hC d_tb_letter_22 (by decide) ?_
    refine r_icmp_lt (tgt := 31) hC d_tb_letter_24 (by decide) (fun c_24 => ?_) (fun c_24 => ?_)
    ·
      refine r_aload_n 0 hC d_tb_letter_31 rfl ?_
      refine r_getR (r := 1) hC d_tb_letter_32 fl_tb_12 rfl rfl rfl ?_
      refine r_getR (r := 2) hC d_tb_letter_35 fl_tb_41 rfl rfl rfl ?_
      refine r_aload_n 0 hC d_tb_letter_38 rfl ?_
      refine r_getR (r := 1) hC d_tb_letter_39 fl_tb_12 rfl rfl rfl ?_
      refine r_getI hC d_tb_letter_42 fl_tb_37 rfl rfl ?_
      refine r_iload_n 1 hC d_tb_letter_45 rfl ?_
      refine r_iast (n := 96) hC d_tb_letter_46 rfl (by decide) rfl rfl (tb_pl_in hI c_24) ?_
      refine r_aload_n 0 hC d_tb_letter_47 rfl ?_
      refine r_getR (r := 1) hC d_tb_letter_48 fl_tb_12 rfl rfl rfl ?_
      refine r_dup hC d_tb_letter_51 rfl ?_
      refine r_getI hC d_tb_letter_52 fl_tb_37 rfl rfl ?_
      refine r_iconst (v := 1) hC d_tb_letter_55 (by decide) ?_
      refine r_iadd hC d_tb_letter_56 ?_
      refine r_putI hC d_tb_letter_57 fl_tb_37 fp_0_1 rfl rfl rfl rfl ?_
      refine r_aload_n 0 hC d_tb_letter_60 rfl ?_
      refine r_getR (r := 1) hC d_tb_letter_61 fl_tb_12 rfl rfl rfl ?_
      refine r_getI hC d_tb_letter_64 fl_tb_37 rfl rfl ?_
      exact r_iret_si hC hR d_tb_letter_67 rfl
    ·
      refine r_sipush (v := (-10104)) hC d_tb_letter_27 (by decide) ?_
      exact r_iret_si hC hR d_tb_letter_30 rfl
  ·
    refine r_sipush (v := (-10102)) hC d_tb_letter_11 (by decide) ?_
    exact r_iret_si hC hR d_tb_letter_14 rfl
/-! TideTable.blank()I -/
def tb_blank (st : tt_St) : Int32 × tt_St := ((tt_I st 1 1), tt_pI st 1 1 0)
set_option maxHeartbeats 4000000 in
set_option maxRecDepth 20000 in
theorem c_tb_blank (G : tt_G) (st : tt_St)   : tt_C y_tb_blank prog_1_method_3_code 2 (some .int) 0 0 G [.ref (tt_ad G 0)] st (some (.int (tb_blank st).1)) (tb_blank st).2 := by
  refine tt_enter_si (T := (tb_blank st)) (by decide +kernel) (Nat.le_of_ble_eq_true rfl) (fun κ hC hR => ?_)
  rw [tb_blank]
  refine r_aload_n 0 hC d_tb_blank_0 rfl ?_
  refine r_getR (r := 1) hC d_tb_blank_1 fl_tb_12 rfl rfl rfl ?_
  refine r_getI hC d_tb_blank_4 fl_tb_37 rfl rfl ?_
  refine r_istore_n [(1, .int (tt_I st 1 1)), (0, .ref (tt_ad G 0))] hC d_tb_blank_7 rfl (by decide) rfl ?_
  refine r_aload_n 1 hC d_tb_blank_8 rfl ?_
  refine r_getR (r := 1) hC d_tb_blank_9 fl_tb_12 rfl rfl rfl ?_
  refine r_iconst (v := 0) hC d_tb_blank_12 (by decide) ?_
  refine r_putI hC d_tb_blank_13 fl_tb_37 fp_0_1 rfl rfl rfl rfl ?_
  refine r_iload_n 0 hC d_tb_blank_16 rfl ?_
  exact r_iret_si hC hR d_tb_blank_17 rfl
/-! TideTable.port(II)I -/
def tb_port (st : tt_St) (a1 : Int32) (a2 : Int32) : Int32 := (if (se_knows st 3 a1) = 0 then (-10101) else (if a2 = 0 then (tt_I st (9 + Int32.toNatClampNeg a1) 0) else (if a2 = 1 then (tt_I st (9 + Int32.toNatClampNeg a1) 1) else (if a2 = 2 then (tt_I st (9 + Int32.toNatClampNeg a1) 2) else (if a2 = 3 then (tt_I st (9 + Int32.toNatClampNeg a1) 3) else (if a2 = 4 then (tt_I st (9 + Int32.toNatClampNeg a1) 6) else (if a2 = 5 then (tt_I st (9 + Int32.toNatClampNeg a1) 4) else (if a2 = 6 then (tb_nextToAsk (tt_I st (9 + Int32.toNatClampNeg a1) 4)) else (-10102)))))))))
set_option maxHeartbeats 4000000 in
set_option maxRecDepth 20000 in
theorem c_tb_port (G : tt_G) (st : tt_St) (a1 : Int32) (a2 : Int32) (hI : tb_ok st) : tt_C y_tb_port prog_1_method_6_code 4 (some .int) 3 64 G [.ref (tt_ad G 0), .int a1, .int a2] st (some (.int (tb_port st a1 a2))) st := by
  refine tt_enter_pi (T := (tb_port st a1 a2)) (by decide +kernel) (Nat.le_of_ble_eq_true rfl) (fun κ hC hR => ?_)
  rw [tb_port]
  refine r_aload_n 0 hC d_tb_port_0 rfl ?_
  refine r_getR (r := 3) hC d_tb_port_1 fl_tb_19 rfl rfl rfl ?_
  refine r_iload_n 1 hC d_tb_port_4 rfl ?_
  refine r_callV (o := 3) (rest := []) (stk1 := [.int (se_knows st 3 a1)]) hC d_tb_port_5 (c_se_knows G st 3 a1 rfl) mw_se_knows mi_se_knows mz_se_knows ml_tb_64 rfl rfl rfl rfl rfl (Nat.le_of_ble_eq_true rfl) rfl ?_
  refine r_if_ne (tgt := 15) hC d_tb_port_8 (by decide) (fun c_8 => ?_) (fun c_8 => ?_)
  ·
    refine r_aload_n 0 hC d_tb_port_15 rfl ?_
    refine r_getR (r := 3) hC d_tb_port_16 fl_tb_19 rfl rfl rfl ?_
    refine r_getR (r := 5) hC d_tb_port_19 fl_tb_68 rfl rfl rfl ?_
    refine r_iload_n 1 hC d_tb_port_22 rfl ?_
    have hb_23 : vp_in a1 4 := (se_knows_in hI rfl c_8)
    refine r_aald (r := (9 + Int32.toNatClampNeg a1)) (C := "TideTable$Port") hC d_tb_port_23 rfl (by decide) rfl (by decide) (fun _ => rfl) rfl hb_23 rfl ?_
    refine r_astore_n [(3, .ref (tt_ad G (9 + Int32.toNatClampNeg a1))), (0, .ref (tt_ad G 0)), (1, .int a1), (2, .int a2)] hC d_tb_port_24 rfl (by decide) rfl ?_
    refine r_iload_n 3 hC d_tb_port_25 rfl ?_
    refine tt_ite (c := a2 = 0) (fun c_26_0 => ?_) (fun c_26_0 => ?_)
    ·
      refine r_tabIn (tgt := 68) (off := 42) hC d_tb_port_26 (by rw [c_26_0]; decide) (by rw [c_26_0]; decide) (by rw [c_26_0]; decide) (by decide) ?_
      refine r_aload_n 0 hC d_tb_port_68 rfl ?_
      refine r_getI hC d_tb_port_69 fl_tb_72 rfl (tt_ci_5 hb_23) ?_
      exact r_iret_pi hC hR d_tb_port_72 rfl
    ·
      refine tt_ite (c := a2 = 1) (fun c_26_1 => ?_) (fun c_26_1 => ?_)
      ·
        refine r_tabIn (tgt := 73) (off := 47) hC d_tb_port_26 (by rw [c_26_1]; decide) (by rw [c_26_1]; decide) (by rw [c_26_1]; decide) (by decide) ?_
        refine r_aload_n 0 hC d_tb_port_73 rfl ?_
        refine r_getI hC d_tb_port_74 fl_tb_77 rfl (tt_ci_5 hb_23) ?_
        exact r_iret_pi hC hR d_tb_port_77 rfl
      ·
        refine tt_ite (c := a2 = 2) (fun c_26_2 => ?_) (fun c_26_2 => ?_)
        ·
          refine r_tabIn (tgt := 78) (off := 52) hC d_tb_port_26 (by rw [c_26_2]; decide) (by rw [c_26_2]; decide) (by rw [c_26_2]; decide) (by decide) ?_
          refine r_aload_n 0 hC d_tb_port_78 rfl ?_
          refine r_getI hC d_tb_port_79 fl_tb_80 rfl (tt_ci_5 hb_23) ?_
          exact r_iret_pi hC hR d_tb_port_82 rfl
        ·
          refine tt_ite (c := a2 = 3) (fun c_26_3 => ?_) (fun c_26_3 => ?_)
          ·
            refine r_tabIn (tgt := 83) (off := 57) hC d_tb_port_26 (by rw [c_26_3]; decide) (by rw [c_26_3]; decide) (by rw [c_26_3]; decide) (by decide) ?_
            refine r_aload_n 0 hC d_tb_port_83 rfl ?_
            refine r_getI hC d_tb_port_84 fl_tb_83 rfl (tt_ci_5 hb_23) ?_
            exact r_iret_pi hC hR d_tb_port_87 rfl
          ·
            refine tt_ite (c := a2 = 4) (fun c_26_4 => ?_) (fun c_26_4 => ?_)
            ·
              refine r_tabIn (tgt := 88) (off := 62) hC d_tb_port_26 (by rw [c_26_4]; decide) (by rw [c_26_4]; decide) (by rw [c_26_4]; decide) (by decide) ?_
              refine r_aload_n 0 hC d_tb_port_88 rfl ?_
              refine r_getI hC d_tb_port_89 fl_tb_86 rfl (tt_ci_5 hb_23) ?_
              exact r_iret_pi hC hR d_tb_port_92 rfl
            ·
              refine tt_ite (c := a2 = 5) (fun c_26_5 => ?_) (fun c_26_5 => ?_)
              ·
                refine r_tabIn (tgt := 93) (off := 67) hC d_tb_port_26 (by rw [c_26_5]; decide) (by rw [c_26_5]; decide) (by rw [c_26_5]; decide) (by decide) ?_
                refine r_aload_n 0 hC d_tb_port_93 rfl ?_
                refine r_getI hC d_tb_port_94 fl_tb_87 rfl (tt_ci_5 hb_23) ?_
                exact r_iret_pi hC hR d_tb_port_97 rfl
              ·
                refine tt_ite (c := a2 = 6) (fun c_26_6 => ?_) (fun c_26_6 => ?_)
                ·
                  refine r_tabIn (tgt := 98) (off := 72) hC d_tb_port_26 (by rw [c_26_6]; decide) (by rw [c_26_6]; decide) (by rw [c_26_6]; decide) (by decide) ?_
                  refine r_aload_n 0 hC d_tb_port_98 rfl ?_
                  refine r_getI hC d_tb_port_99 fl_tb_87 rfl (tt_ci_5 hb_23) ?_
                  refine r_callS (rest := []) (stk1 := [.int (tb_nextToAsk (tt_I st (9 + Int32.toNatClampNeg a1) 4))]) hC d_tb_port_102 (c_tb_nextToAsk G st (tt_I st (9 + Int32.toNatClampNeg a1) 4)) mw_tb_nextToAsk ms_tb_nextToAsk ml_tb_90 rfl rfl rfl (Nat.le_of_ble_eq_true rfl) rfl ?_
                  exact r_iret_pi hC hR d_tb_port_105 rfl
                ·
                  have nc_26_0 := lv_neT (a := 0) c_26_0 (by decide)
                  have nc_26_1 := lv_neT (a := 1) c_26_1 (by decide)
                  have nc_26_2 := lv_neT (a := 2) c_26_2 (by decide)
                  have nc_26_3 := lv_neT (a := 3) c_26_3 (by decide)
                  have nc_26_4 := lv_neT (a := 4) c_26_4 (by decide)
                  have nc_26_5 := lv_neT (a := 5) c_26_5 (by decide)
                  have nc_26_6 := lv_neT (a := 6) c_26_6 (by decide)
                  refine r_tabOut (tgt := 106) hC d_tb_port_26 (by omega) (by decide) ?_
                  refine r_sipush (v := (-10102)) hC d_tb_port_106 (by decide) ?_
                  exact r_iret_pi hC hR d_tb_port_109 rfl
  ·
    refine r_sipush (v := (-10101)) hC d_tb_port_11 (by decide) ?_
    exact r_iret_pi hC hR d_tb_port_14 rfl
/-! TideTable.wave(III)I -/
def tb_wave (st : tt_St) (a1 : Int32) (a2 : Int32) (a3 : Int32) : Int32 := (if (se_knows st 3 a1) = 0 then (-10101) else (if (po_has st (9 + Int32.toNatClampNeg a1) a2) = 0 then (-10101) else (if a3 = 0 then (tt_I st (tt_wv (9 + Int32.toNatClampNeg a1) (Int32.toNatClampNeg a2)) 0) else (if a3 = 1 then (tt_I st (tt_wv (9 + Int32.toNatClampNeg a1) (Int32.toNatClampNeg a2)) 1) else (if a3 = 2 then (tt_I st (tt_wv (9 + Int32.toNatClampNeg a1) (Int32.toNatClampNeg a2)) 2) else (-10102))))))
set_option maxHeartbeats 4000000 in
set_option maxRecDepth 20000 in
theorem c_tb_wave (G : tt_G) (st : tt_St) (a1 : Int32) (a2 : Int32) (a3 : Int32) (hI : tb_ok st) : tt_C y_tb_wave prog_1_method_7_code 5 (some .int) 1 21 G [.ref (tt_ad G 0), .int a1, .int a2, .int a3] st (some (.int (tb_wave st a1 a2 a3))) st := by
  refine tt_enter_pi (T := (tb_wave st a1 a2 a3)) (by decide +kernel) (Nat.le_of_ble_eq_true rfl) (fun κ hC hR => ?_)
  rw [tb_wave]
  refine r_aload_n 0 hC d_tb_wave_0 rfl ?_
  refine r_getR (r := 3) hC d_tb_wave_1 fl_tb_19 rfl rfl rfl ?_
  refine r_iload_n 1 hC d_tb_wave_4 rfl ?_
  refine r_callV (o := 3) (rest := []) (stk1 := [.int (se_knows st 3 a1)]) hC d_tb_wave_5 (c_se_knows G st 3 a1 rfl) mw_se_knows mi_se_knows mz_se_knows ml_tb_64 rfl rfl rfl rfl rfl (Nat.le_of_ble_eq_true rfl) rfl ?_
  refine r_if_eq (tgt := 27) hC d_tb_wave_8 (by decide) (fun c_8 => ?_) (fun c_8 => ?_)
  ·
    refine r_sipush (v := (-10101)) hC d_tb_wave_27 (by decide) ?_
    exact r_iret_pi hC hR d_tb_wave_30 rfl
  ·
    refine r_aload_n 0 hC d_tb_wave_11 rfl ?_
    refine r_getR (r := 3) hC d_tb_wave_12 fl_tb_19 rfl rfl rfl ?_
    refine r_getR (r := 5) hC d_tb_wave_15 fl_tb_68 rfl rfl rfl ?_
    refine r_iload_n 1 hC d_tb_wave_18 rfl ?_
    have hb_19 : vp_in a1 4 := (se_knows_in hI rfl c_8)
    refine r_aald (r := (9 + Int32.toNatClampNeg a1)) (C := "TideTable$Port") hC d_tb_wave_19 rfl (by decide) rfl (by decide) (fun _ => rfl) rfl hb_19 rfl ?_
    refine r_iload_n 2 hC d_tb_wave_20 rfl ?_
    refine r_callV (o := (9 + Int32.toNatClampNeg a1)) (rest := []) (stk1 := [.int (po_has st (9 + Int32.toNatClampNeg a1) a2)]) hC d_tb_wave_21 (c_po_has G st (9 + Int32.toNatClampNeg a1) a2 (tt_ci_5 hb_19)) mw_po_has mi_po_has mz_po_has ml_tb_94 (tt_ci_5 hb_19) rfl rfl rfl rfl (Nat.le_of_ble_eq_true rfl) rfl ?_
    refine r_if_ne (tgt := 31) hC d_tb_wave_24 (by decide) (fun c_24 => ?_) (fun c_24 => ?_)
    ·
      refine r_aload_n 0 hC d_tb_wave_31 rfl ?_
      refine r_getR (r := 3) hC d_tb_wave_32 fl_tb_19 rfl rfl rfl ?_
      refine r_getR (r := 5) hC d_tb_wave_35 fl_tb_68 rfl rfl rfl ?_
      refine r_iload_n 1 hC d_tb_wave_38 rfl ?_
      have hb_39 : vp_in a1 4 := (se_knows_in hI rfl c_8)
      refine r_aald (r := (9 + Int32.toNatClampNeg a1)) (C := "TideTable$Port") hC d_tb_wave_39 rfl (by decide) rfl (by decide) (fun _ => rfl) rfl hb_39 rfl ?_
      refine r_getR (r := ((9 + Int32.toNatClampNeg a1) + 8)) hC d_tb_wave_40 fl_tb_97 rfl (tt_ci_5 hb_39) (tt_R_po (tt_ci_5 hb_39)) ?_
      refine r_iload_n 2 hC d_tb_wave_43 rfl ?_
      have hb_44 : vp_in a2 3 := (po_has_in hI (tt_ci_5 hb_39) c_24).1
      refine r_aald (r := (tt_wv (9 + Int32.toNatClampNeg a1) (Int32.toNatClampNeg a2))) (C := "TideTable$Wave") hC d_tb_wave_44 (tt_ar_po (tt_ci_5 hb_39)).1 (tt_ar_po (tt_ci_5 hb_39)).2.1 (tt_ar_po (tt_ci_5 hb_39)).2.2.1 (by decide) (fun _ => rfl) (tt_ar_po (tt_ci_5 hb_39)).2.2.2 hb_44 (tt_wv_RA (tt_ci_5 hb_39)) ?_
      refine r_astore [(4, .ref (tt_ad G (tt_wv (9 + Int32.toNatClampNeg a1) (Int32.toNatClampNeg a2)))), (0, .ref (tt_ad G 0)), (1, .int a1), (2, .int a2), (3, .int a3)] hC d_tb_wave_45 (by decide) rfl ?_
      refine r_iload_n 4 hC d_tb_wave_47 rfl ?_
      refine tt_ite (c := a3 = 0) (fun c_48_0 => ?_) (fun c_48_0 => ?_)
      ·
        refine r_tabIn (tgt := 76) (off := 28) hC d_tb_wave_48 (by rw [c_48_0]; decide) (by rw [c_48_0]; decide) (by rw [c_48_0]; decide) (by decide) ?_
        refine r_aload 0 hC d_tb_wave_76 rfl ?_
        refine r_getI hC d_tb_wave_78 fl_tb_101 rfl (tt_wv_ci (tt_ci_5 hb_39) hb_44) ?_
        exact r_iret_pi hC hR d_tb_wave_81 rfl
      ·
        refine tt_ite (c := a3 = 1) (fun c_48_1 => ?_) (fun c_48_1 => ?_)
        ·
          refine r_tabIn (tgt := 82) (off := 34) hC d_tb_wave_48 (by rw [c_48_1]; decide) (by rw [c_48_1]; decide) (by rw [c_48_1]; decide) (by decide) ?_
          refine r_aload 0 hC d_tb_wave_82 rfl ?_
          refine r_getI hC d_tb_wave_84 fl_tb_106 rfl (tt_wv_ci (tt_ci_5 hb_39) hb_44) ?_
          exact r_iret_pi hC hR d_tb_wave_87 rfl
        ·
          refine tt_ite (c := a3 = 2) (fun c_48_2 => ?_) (fun c_48_2 => ?_)
          ·
            refine r_tabIn (tgt := 88) (off := 40) hC d_tb_wave_48 (by rw [c_48_2]; decide) (by rw [c_48_2]; decide) (by rw [c_48_2]; decide) (by decide) ?_
            refine r_aload 0 hC d_tb_wave_88 rfl ?_
            refine r_getI hC d_tb_wave_90 fl_tb_109 rfl (tt_wv_ci (tt_ci_5 hb_39) hb_44) ?_
            exact r_iret_pi hC hR d_tb_wave_93 rfl
          ·
            have nc_48_0 := lv_neT (a := 0) c_48_0 (by decide)
            have nc_48_1 := lv_neT (a := 1) c_48_1 (by decide)
            have nc_48_2 := lv_neT (a := 2) c_48_2 (by decide)
            refine r_tabOut (tgt := 94) hC d_tb_wave_48 (by omega) (by decide) ?_
            refine r_sipush (v := (-10102)) hC d_tb_wave_94 (by decide) ?_
            exact r_iret_pi hC hR d_tb_wave_97 rfl
    ·
      refine r_sipush (v := (-10101)) hC d_tb_wave_27 (by decide) ?_
      exact r_iret_pi hC hR d_tb_wave_30 rfl
/-! TideTable.as(II)I -/
def tb_as (st : tt_St) (a1 : Int32) (a2 : Int32) : Int32 := (if (se_knows st 3 a1) = 0 then (-10101) else (if (tb_within a2 0 4) = 0 then (-10102) else (if (po_isA st (9 + Int32.toNatClampNeg a1) a2) = 0 then (-10001) else a1)))
set_option maxHeartbeats 4000000 in
set_option maxRecDepth 20000 in
theorem c_tb_as (G : tt_G) (st : tt_St) (a1 : Int32) (a2 : Int32) (hI : tb_ok st) : tt_C y_tb_as prog_1_method_8_code 3 (some .int) 1 22 G [.ref (tt_ad G 0), .int a1, .int a2] st (some (.int (tb_as st a1 a2))) st := by
  refine tt_enter_pi (T := (tb_as st a1 a2)) (by decide +kernel) (Nat.le_of_ble_eq_true rfl) (fun κ hC hR => ?_)
  rw [tb_as]
  refine r_aload_n 0 hC d_tb_as_0 rfl ?_
  refine r_getR (r := 3) hC d_tb_as_1 fl_tb_19 rfl rfl rfl ?_
  refine r_iload_n 1 hC d_tb_as_4 rfl ?_
  refine r_callV (o := 3) (rest := []) (stk1 := [.int (se_knows st 3 a1)]) hC d_tb_as_5 (c_se_knows G st 3 a1 rfl) mw_se_knows mi_se_knows mz_se_knows ml_tb_64 rfl rfl rfl rfl rfl (Nat.le_of_ble_eq_true rfl) rfl ?_
  refine r_if_ne (tgt := 15) hC d_tb_as_8 (by decide) (fun c_8 => ?_) (fun c_8 => ?_)
  ·
    refine r_iload_n 2 hC d_tb_as_15 rfl ?_
    refine r_iconst (v := 0) hC d_tb_as_16 (by decide) ?_
    refine r_iconst (v := 4) hC d_tb_as_17 (by decide) ?_
    refine r_callS (rest := []) (stk1 := [.int (tb_within a2 0 4)]) hC d_tb_as_18 (c_tb_within G st a2 0 4) mw_tb_within ms_tb_within ml_tb_33 rfl rfl rfl (Nat.le_of_ble_eq_true rfl) rfl ?_
    refine r_if_ne (tgt := 28) hC d_tb_as_21 (by decide) (fun c_21 => ?_) (fun c_21 => ?_)
    ·
      refine r_aload_n 0 hC d_tb_as_28 rfl ?_
      refine r_getR (r := 3) hC d_tb_as_29 fl_tb_19 rfl rfl rfl ?_
      refine r_getR (r := 5) hC d_tb_as_32 fl_tb_68 rfl rfl rfl ?_
      refine r_iload_n 1 hC d_tb_as_35 rfl ?_
      have hb_36 : vp_in a1 4 := (se_knows_in hI rfl c_8)
      refine r_aald (r := (9 + Int32.toNatClampNeg a1)) (C := "TideTable$Port") hC d_tb_as_36 rfl (by decide) rfl (by decide) (fun _ => rfl) rfl hb_36 rfl ?_
      refine r_iload_n 2 hC d_tb_as_37 rfl ?_
      refine r_callV (o := (9 + Int32.toNatClampNeg a1)) (rest := []) (stk1 := [.int (po_isA st (9 + Int32.toNatClampNeg a1) a2)]) hC d_tb_as_38 (c_po_isA G st (9 + Int32.toNatClampNeg a1) a2 (tt_ci_5 hb_36)) mw_po_isA mi_po_isA mz_po_isA ml_tb_112 (tt_ci_5 hb_36) rfl rfl rfl rfl (Nat.le_of_ble_eq_true rfl) rfl ?_
      refine r_if_eq (tgt := 48) hC d_tb_as_41 (by decide) (fun c_41 => ?_) (fun c_41 => ?_)
      ·
        refine r_sipush (v := (-10001)) hC d_tb_as_48 (by decide) ?_
        exact r_iret_pi hC hR d_tb_as_51 rfl
      ·
        refine r_iload_n 1 hC d_tb_as_44 rfl ?_
        refine r_goto (tgt := 51) hC d_tb_as_45 (by decide) ?_
        exact r_iret_pi hC hR d_tb_as_51 rfl
    ·
      refine r_sipush (v := (-10102)) hC d_tb_as_24 (by decide) ?_
      exact r_iret_pi hC hR d_tb_as_27 rfl
  ·
    refine r_sipush (v := (-10101)) hC d_tb_as_11 (by decide) ?_
    exact r_iret_pi hC hR d_tb_as_14 rfl
/-! TideTable.round(I)I -/
def tb_round (a1 : Int32) : Int32 := (if (tb_within a1 0 64) = 0 then (-10102) else (tb_roundAt a1))
set_option maxHeartbeats 4000000 in
set_option maxRecDepth 20000 in
theorem c_tb_round (G : tt_G) (st : tt_St) (a1 : Int32)  : tt_C y_tb_round prog_1_method_9_code 2 (some .int) 1 22 G [.ref (tt_ad G 0), .int a1] st (some (.int (tb_round a1))) st := by
  refine tt_enter_pi (T := (tb_round a1)) (by decide +kernel) (Nat.le_of_ble_eq_true rfl) (fun κ hC hR => ?_)
  rw [tb_round]
  refine r_iload_n 1 hC d_tb_round_0 rfl ?_
  refine r_iconst (v := 0) hC d_tb_round_1 (by decide) ?_
  refine r_bipush (v := 64) hC d_tb_round_2 (by decide) ?_
  refine r_callS (rest := []) (stk1 := [.int (tb_within a1 0 64)]) hC d_tb_round_4 (c_tb_within G st a1 0 64) mw_tb_within ms_tb_within ml_tb_33 rfl rfl rfl (Nat.le_of_ble_eq_true rfl) rfl ?_
  refine r_if_eq (tgt := 17) hC d_tb_round_7 (by decide) (fun c_7 => ?_) (fun c_7 => ?_)
  ·
    refine r_sipush (v := (-10102)) hC d_tb_round_17 (by decide) ?_
    exact r_iret_pi hC hR d_tb_round_20 rfl
  ·
    refine r_iload_n 1 hC d_tb_round_10 rfl ?_
    refine r_callS (rest := []) (stk1 := [.int (tb_roundAt a1)]) hC d_tb_round_11 (c_tb_roundAt G st a1) mw_tb_roundAt ms_tb_roundAt ml_tb_115 rfl rfl rfl (Nat.le_of_ble_eq_true rfl) rfl ?_
    refine r_goto (tgt := 20) hC d_tb_round_14 (by decide) ?_
    exact r_iret_pi hC hR d_tb_round_20 rfl
/-! TideTable.sum(II)I -/
def tb_sum (st : tt_St) (a1 : Int32) (a2 : Int32) : Int32 := (if (se_knows st 3 a1) = 0 then (-10101) else (if (tb_within a2 0 1439) = 0 then (-10102) else (po_sumAt st (9 + Int32.toNatClampNeg a1) a2)))
set_option maxHeartbeats 4000000 in
set_option maxRecDepth 20000 in
theorem c_tb_sum (G : tt_G) (st : tt_St) (a1 : Int32) (a2 : Int32) (hI : tb_ok st) : tt_C y_tb_sum prog_1_method_10_code 3 (some .int) 3 70 G [.ref (tt_ad G 0), .int a1, .int a2] st (some (.int (tb_sum st a1 a2))) st := by
  refine tt_enter_pi (T := (tb_sum st a1 a2)) (by decide +kernel) (Nat.le_of_ble_eq_true rfl) (fun κ hC hR => ?_)
  rw [tb_sum]
  refine r_aload_n 0 hC d_tb_sum_0 rfl ?_
  refine r_getR (r := 3) hC d_tb_sum_1 fl_tb_19 rfl rfl rfl ?_
  refine r_iload_n 1 hC d_tb_sum_4 rfl ?_
  refine r_callV (o := 3) (rest := []) (stk1 := [.int (se_knows st 3 a1)]) hC d_tb_sum_5 (c_se_knows G st 3 a1 rfl) mw_se_knows mi_se_knows mz_se_knows ml_tb_64 rfl rfl rfl rfl rfl (Nat.le_of_ble_eq_true rfl) rfl ?_
  refine r_if_ne (tgt := 15) hC d_tb_sum_8 (by decide) (fun c_8 => ?_) (fun c_8 => ?_)
  ·
    refine r_iload_n 2 hC d_tb_sum_15 rfl ?_
    refine r_iconst (v := 0) hC d_tb_sum_16 (by decide) ?_
    refine r_sipush (v := 1439) hC d_tb_sum_17 (by decide) ?_
    refine r_callS (rest := []) (stk1 := [.int (tb_within a2 0 1439)]) hC d_tb_sum_20 (c_tb_within G st a2 0 1439) mw_tb_within ms_tb_within ml_tb_33 rfl rfl rfl (Nat.le_of_ble_eq_true rfl) rfl ?_
    refine r_if_eq (tgt := 42) hC d_tb_sum_23 (by decide) (fun c_23 => ?_) (fun c_23 => ?_)
    ·
      refine r_sipush (v := (-10102)) hC d_tb_sum_42 (by decide) ?_
      exact r_iret_pi hC hR d_tb_sum_45 rfl
    ·
      refine r_aload_n 0 hC d_tb_sum_26 rfl ?_
      refine r_getR (r := 3) hC d_tb_sum_27 fl_tb_19 rfl rfl rfl ?_
      refine r_getR (r := 5) hC d_tb_sum_30 fl_tb_68 rfl rfl rfl ?_
      refine r_iload_n 1 hC d_tb_sum_33 rfl ?_
      have hb_34 : vp_in a1 4 := (se_knows_in hI rfl c_8)
      refine r_aald (r := (9 + Int32.toNatClampNeg a1)) (C := "TideTable$Port") hC d_tb_sum_34 rfl (by decide) rfl (by decide) (fun _ => rfl) rfl hb_34 rfl ?_
      refine r_iload_n 2 hC d_tb_sum_35 rfl ?_
      refine r_callV (o := (9 + Int32.toNatClampNeg a1)) (rest := []) (stk1 := [.int (po_sumAt st (9 + Int32.toNatClampNeg a1) a2)]) hC d_tb_sum_36 (c_po_sumAt G st (9 + Int32.toNatClampNeg a1) a2 (tt_ci_5 hb_34) hI) mw_po_sumAt mi_po_sumAt mz_po_sumAt ml_tb_118 (tt_ci_5 hb_34) rfl rfl rfl rfl (Nat.le_of_ble_eq_true rfl) rfl ?_
      refine r_goto (tgt := 45) hC d_tb_sum_39 (by decide) ?_
      exact r_iret_pi hC hR d_tb_sum_45 rfl
  ·
    refine r_sipush (v := (-10101)) hC d_tb_sum_11 (by decide) ?_
    exact r_iret_pi hC hR d_tb_sum_14 rfl
/-! TideTable.height(II)I -/
def tb_height (st : tt_St) (a1 : Int32) (a2 : Int32) : Int32 := (if (se_knows st 3 a1) = 0 then (-10101) else (if (tb_within a2 0 1439) = 0 then (-10102) else (se_heightAt st 3 a1 a2)))
set_option maxHeartbeats 4000000 in
set_option maxRecDepth 20000 in
theorem c_tb_height (G : tt_G) (st : tt_St) (a1 : Int32) (a2 : Int32) (hI : tb_ok st) : tt_C y_tb_height prog_1_method_11_code 3 (some .int) 5 118 G [.ref (tt_ad G 0), .int a1, .int a2] st (some (.int (tb_height st a1 a2))) st := by
  refine tt_enter_pi (T := (tb_height st a1 a2)) (by decide +kernel) (Nat.le_of_ble_eq_true rfl) (fun κ hC hR => ?_)
  rw [tb_height]
  refine r_aload_n 0 hC d_tb_height_0 rfl ?_
  refine r_getR (r := 3) hC d_tb_height_1 fl_tb_19 rfl rfl rfl ?_
  refine r_iload_n 1 hC d_tb_height_4 rfl ?_
  refine r_callV (o := 3) (rest := []) (stk1 := [.int (se_knows st 3 a1)]) hC d_tb_height_5 (c_se_knows G st 3 a1 rfl) mw_se_knows mi_se_knows mz_se_knows ml_tb_64 rfl rfl rfl rfl rfl (Nat.le_of_ble_eq_true rfl) rfl ?_
  refine r_if_ne (tgt := 15) hC d_tb_height_8 (by decide) (fun c_8 => ?_) (fun c_8 => ?_)
  ·
    refine r_iload_n 2 hC d_tb_height_15 rfl ?_
    refine r_iconst (v := 0) hC d_tb_height_16 (by decide) ?_
    refine r_sipush (v := 1439) hC d_tb_height_17 (by decide) ?_
    refine r_callS (rest := []) (stk1 := [.int (tb_within a2 0 1439)]) hC d_tb_height_20 (c_tb_within G st a2 0 1439) mw_tb_within ms_tb_within ml_tb_33 rfl rfl rfl (Nat.le_of_ble_eq_true rfl) rfl ?_
    refine r_if_eq (tgt := 38) hC d_tb_height_23 (by decide) (fun c_23 => ?_) (fun c_23 => ?_)
    ·
      refine r_sipush (v := (-10102)) hC d_tb_height_38 (by decide) ?_
      exact r_iret_pi hC hR d_tb_height_41 rfl
    ·
      refine r_aload_n 0 hC d_tb_height_26 rfl ?_
      refine r_getR (r := 3) hC d_tb_height_27 fl_tb_19 rfl rfl rfl ?_
      refine r_iload_n 1 hC d_tb_height_30 rfl ?_
      refine r_iload_n 2 hC d_tb_height_31 rfl ?_
      refine r_callV (o := 3) (rest := []) (stk1 := [.int (se_heightAt st 3 a1 a2)]) hC d_tb_height_32 (c_se_heightAt G st 3 a1 a2 rfl hI) mw_se_heightAt mi_se_heightAt mz_se_heightAt ml_tb_121 rfl rfl rfl rfl rfl (Nat.le_of_ble_eq_true rfl) rfl ?_
      refine r_goto (tgt := 41) hC d_tb_height_35 (by decide) ?_
      exact r_iret_pi hC hR d_tb_height_41 rfl
  ·
    refine r_sipush (v := (-10101)) hC d_tb_height_11 (by decide) ?_
    exact r_iret_pi hC hR d_tb_height_14 rfl
/-! TideTable.stream(III)I -/
def tb_stream (st : tt_St) (a1 : Int32) (a2 : Int32) (a3 : Int32) : Int32 := (if (se_knows st 3 a1) = 0 then (-10101) else (if (se_knows st 3 a2) = 0 then (-10101) else (if (tb_within a3 0 1439) = 0 then (-10102) else ((se_heightAt st 3 a1 a3) - (se_heightAt st 3 a2 a3)))))
set_option maxHeartbeats 4000000 in
set_option maxRecDepth 20000 in
theorem c_tb_stream (G : tt_G) (st : tt_St) (a1 : Int32) (a2 : Int32) (a3 : Int32) (hI : tb_ok st) : tt_C y_tb_stream prog_1_method_15_code 4 (some .int) 5 118 G [.ref (tt_ad G 0), .int a1, .int a2, .int a3] st (some (.int (tb_stream st a1 a2 a3))) st := by
  refine tt_enter_pi (T := (tb_stream st a1 a2 a3)) (by decide +kernel) (Nat.le_of_ble_eq_true rfl) (fun κ hC hR => ?_)
  rw [tb_stream]
  refine r_aload_n 0 hC d_tb_stream_0 rfl ?_
  refine r_getR (r := 3) hC d_tb_stream_1 fl_tb_19 rfl rfl rfl ?_
  refine r_iload_n 1 hC d_tb_stream_4 rfl ?_
  refine r_callV (o := 3) (rest := []) (stk1 := [.int (se_knows st 3 a1)]) hC d_tb_stream_5 (c_se_knows G st 3 a1 rfl) mw_se_knows mi_se_knows mz_se_knows ml_tb_64 rfl rfl rfl rfl rfl (Nat.le_of_ble_eq_true rfl) rfl ?_
  refine r_if_eq (tgt := 22) hC d_tb_stream_8 (by decide) (fun c_8 => ?_) (fun c_8 => ?_)
  ·
    refine r_sipush (v := (-10101)) hC d_tb_stream_22 (by decide) ?_
    exact r_iret_pi hC hR d_tb_stream_25 rfl
  ·
    refine r_aload_n 0 hC d_tb_stream_11 rfl ?_
    refine r_getR (r := 3) hC d_tb_stream_12 fl_tb_19 rfl rfl rfl ?_
    refine r_iload_n 2 hC d_tb_stream_15 rfl ?_
    refine r_callV (o := 3) (rest := []) (stk1 := [.int (se_knows st 3 a2)]) hC d_tb_stream_16 (c_se_knows G st 3 a2 rfl) mw_se_knows mi_se_knows mz_se_knows ml_tb_64 rfl rfl rfl rfl rfl (Nat.le_of_ble_eq_true rfl) rfl ?_
    refine r_if_ne (tgt := 26) hC d_tb_stream_19 (by decide) (fun c_19 => ?_) (fun c_19 => ?_)
    ·
      refine r_iload_n 3 hC d_tb_stream_26 rfl ?_
      refine r_iconst (v := 0) hC d_tb_stream_27 (by decide) ?_
      refine r_sipush (v := 1439) hC d_tb_stream_28 (by decide) ?_
      refine r_callS (rest := []) (stk1 := [.int (tb_within a3 0 1439)]) hC d_tb_stream_31 (c_tb_within G st a3 0 1439) mw_tb_within ms_tb_within ml_tb_33 rfl rfl rfl (Nat.le_of_ble_eq_true rfl) rfl ?_
      refine r_if_ne (tgt := 41) hC d_tb_stream_34 (by decide) (fun c_34 => ?_) (fun c_34 => ?_)
      ·
        refine r_aload_n 0 hC d_tb_stream_41 rfl ?_
        refine r_getR (r := 3) hC d_tb_stream_42 fl_tb_19 rfl rfl rfl ?_
        refine r_iload_n 1 hC d_tb_stream_45 rfl ?_
        refine r_iload_n 3 hC d_tb_stream_46 rfl ?_
        refine r_callV (o := 3) (rest := []) (stk1 := [.int (se_heightAt st 3 a1 a3)]) hC d_tb_stream_47 (c_se_heightAt G st 3 a1 a3 rfl hI) mw_se_heightAt mi_se_heightAt mz_se_heightAt ml_tb_121 rfl rfl rfl rfl rfl (Nat.le_of_ble_eq_true rfl) rfl ?_
        refine r_aload_n 0 hC d_tb_stream_50 rfl ?_
        refine r_getR (r := 3) hC d_tb_stream_51 fl_tb_19 rfl rfl rfl ?_
        refine r_iload_n 2 hC d_tb_stream_54 rfl ?_
        refine r_iload_n 3 hC d_tb_stream_55 rfl ?_
        refine r_callV (o := 3) (rest := [.int (se_heightAt st 3 a1 a3)]) (stk1 := [.int (se_heightAt st 3 a2 a3), .int (se_heightAt st 3 a1 a3)]) hC d_tb_stream_56 (c_se_heightAt G st 3 a2 a3 rfl hI) mw_se_heightAt mi_se_heightAt mz_se_heightAt ml_tb_121 rfl rfl rfl rfl rfl (Nat.le_of_ble_eq_true rfl) rfl ?_
        refine r_isub hC d_tb_stream_59 ?_
        exact r_iret_pi hC hR d_tb_stream_60 rfl
      ·
        refine r_sipush (v := (-10102)) hC d_tb_stream_37 (by decide) ?_
        exact r_iret_pi hC hR d_tb_stream_40 rfl
    ·
      refine r_sipush (v := (-10101)) hC d_tb_stream_22 (by decide) ?_
      exact r_iret_pi hC hR d_tb_stream_25 rfl
/-! TideTable.turnAt(I)I -/
def tb_turnAt_l34 (st : tt_St) (a1 : Int32) : Nat → Int32 → Int32
  | 0, x2 => x2
  | n + 1, x2 => (if (a1 + 144) ≤ x2 then x2 else (if (tt_A st 7 (Int32.toNatClampNeg x2)) = (tt_A st 7 (Int32.toNatClampNeg a1)) then (tb_turnAt_l34 st a1 n (x2 + 1)) else x2))
theorem tb_turn_b {st : tt_St} {a1 : Int32} (ha : 1 ≤ a1.toInt ∧ a1.toInt ≤ 144) : ∀ (n : Nat) (x2 : Int32), (a1.toInt + 1 ≤ x2.toInt ∧ x2.toInt ≤ a1.toInt + 144) → a1.toInt + 1 ≤ (tb_turnAt_l34 st a1 n x2).toInt ∧ (tb_turnAt_l34 st a1 n x2).toInt ≤ a1.toInt + 144 := by
  intro n
  induction n with
  | zero => intro x2 h; exact h
  | succ n ih =>
    intro x2 h
    rw [tb_turnAt_l34]
    by_cases c : a1 + 144 ≤ x2
    · rw [if_pos c]; exact h
    · rw [if_neg c]
      refine tt_iteQ (fun r : Int32 => a1.toInt + 1 ≤ r.toInt ∧ r.toInt ≤ a1.toInt + 144) (ih _ ?_) h
      have e := tt_addn (a := a1) (b := 144) (n := 144) rfl (by omega) (by omega)
      have e1 := tt_addn (a := x2) (b := 1) (n := 1) rfl (by omega) (by omega)
      rw [tt_le, e] at c
      omega
theorem tb_turn_in {st : tt_St} {a1 : Int32} (ha : 1 ≤ a1.toInt ∧ a1.toInt ≤ 144) : vp_in (tb_turnAt_l34 st a1 144 (a1 + 1)) 344 := by
  have e1 := tt_addn (a := a1) (b := 1) (n := 1) rfl (by omega) (by omega)
  have h := tb_turn_b (st := st) ha 144 (a1 + 1) (by omega)
  exact tt_in (by omega) (by omega)
set_option maxHeartbeats 4000000 in
set_option maxRecDepth 20000 in
theorem l_tb_turnAt_34 {α : Type} {G : tt_G} {κ : tt_X α} {T : α} (hC : tt_Cx G κ prog_1_method_40_code "TideTable" 5 1 22) (st : tt_St) (a1 : Int32) (ha : 1 ≤ a1.toInt ∧ a1.toInt ≤ 144) : ∀ (n : Nat) (x2 : Int32), a1.toInt + 1 ≤ x2.toInt ∧ x2.toInt ≤ a1.toInt + 144 ∧ a1.toInt + 145 ≤ x2.toInt + (n : Int) → tt_V G κ T st 64 [(0, .ref (tt_ad G 0)), (1, .int a1), (2, .int (tb_turnAt_l34 st a1 n x2))] [] → tt_V G κ T st 34 [(0, .ref (tt_ad G 0)), (1, .int a1), (2, .int x2)] [] := by
  intro n
  induction n with
  | zero =>
    intro x2 hx k
    exact absurd hx (by omega)
  | succ n ih =>
    intro x2 hx k
    refine r_iload_n 2 hC d_tb_turnAt_34 rfl ?_
    refine r_iload_n 1 hC d_tb_turnAt_35 rfl ?_
    refine r_sipush (v := 144) hC d_tb_turnAt_36 (by decide) ?_
    refine r_iadd hC d_tb_turnAt_39 ?_
    refine j_icmp_ge (tgt := 64) hC d_tb_turnAt_40 (by decide) (fun c_40 => ?_) (fun c_40 => ?_)
    ·
      exact tt_cast (lv' := [(0, .ref (tt_ad G 0)), (1, .int a1), (2, .int x2)]) [0, 1, 2] rfl rfl (by simpa only [tb_turnAt_l34, if_pos c_40] using k)
    ·
      refine r_aload_n 0 hC d_tb_turnAt_43 rfl ?_
      refine r_getR (r := 7) hC d_tb_turnAt_44 fl_tb_26 rfl rfl rfl ?_
      refine r_iload_n 2 hC d_tb_turnAt_47 rfl ?_
      refine r_iald (n := 344) hC d_tb_turnAt_48 rfl (by decide) rfl rfl (tt_in (by omega) (by omega)) ?_
      refine r_aload_n 0 hC d_tb_turnAt_49 rfl ?_
      refine r_getR (r := 7) hC d_tb_turnAt_50 fl_tb_26 rfl rfl rfl ?_
      refine r_iload_n 1 hC d_tb_turnAt_53 rfl ?_
      refine r_iald (n := 344) hC d_tb_turnAt_54 rfl (by decide) rfl rfl (tt_a344 ha).1 ?_
      refine j_icmp_ne (tgt := 64) hC d_tb_turnAt_55 (by decide) (fun c_55 => ?_) (fun c_55 => ?_)
      ·
        exact tt_cast (lv' := [(0, .ref (tt_ad G 0)), (1, .int a1), (2, .int x2)]) [0, 1, 2] rfl rfl (by simpa only [tb_turnAt_l34, if_neg c_40, if_neg c_55] using k)
      ·
        refine r_iinc 2 (x2 + 1) [(2, .int (x2 + 1)), (0, .ref (tt_ad G 0)), (1, .int a1)] hC d_tb_turnAt_58 rfl rfl (by decide) rfl ?_
        refine r_goto (tgt := 34) hC d_tb_turnAt_61 (by decide) ?_
        exact tt_cast [1, 2, 0] rfl rfl (ih (x2 + 1) (tt_turn_s ha hx c_40) (by simpa only [tb_turnAt_l34, if_neg c_40, if_pos c_55] using k))
def tb_turnAt (st : tt_St) (a1 : Int32) : Int32 := (if (tb_within a1 1 144) = 0 then 0 else (if (tt_A st 7 (Int32.toNatClampNeg a1)) = (tt_A st 7 (Int32.toNatClampNeg (a1 - 1))) then 0 else (if (in_compare (tt_A st 7 (Int32.toNatClampNeg a1)) (tt_A st 7 (Int32.toNatClampNeg (a1 - 1)))) = (-(in_compare (tt_A st 7 (Int32.toNatClampNeg (tb_turnAt_l34 st a1 144 (a1 + 1)))) (tt_A st 7 (Int32.toNatClampNeg a1)))) then (in_compare (tt_A st 7 (Int32.toNatClampNeg a1)) (tt_A st 7 (Int32.toNatClampNeg (a1 - 1)))) else 0)))
set_option maxHeartbeats 4000000 in
set_option maxRecDepth 20000 in
theorem c_tb_turnAt (G : tt_G) (st : tt_St) (a1 : Int32)  : tt_C y_tb_turnAt prog_1_method_40_code 5 (some .int) 1 22 G [.ref (tt_ad G 0), .int a1] st (some (.int (tb_turnAt st a1))) st := by
  refine tt_enter_pi (T := (tb_turnAt st a1)) (by decide +kernel) (Nat.le_of_ble_eq_true rfl) (fun κ hC hR => ?_)
  rw [tb_turnAt]
  refine r_iload_n 1 hC d_tb_turnAt_0 rfl ?_
  refine r_iconst (v := 1) hC d_tb_turnAt_1 (by decide) ?_
  refine r_sipush (v := 144) hC d_tb_turnAt_2 (by decide) ?_
  refine r_callS (rest := []) (stk1 := [.int (tb_within a1 1 144)]) hC d_tb_turnAt_5 (c_tb_within G st a1 1 144) mw_tb_within ms_tb_within ml_tb_33 rfl rfl rfl (Nat.le_of_ble_eq_true rfl) rfl ?_
  refine r_if_eq (tgt := 28) hC d_tb_turnAt_8 (by decide) (fun c_8 => ?_) (fun c_8 => ?_)
  ·
    refine r_iconst (v := 0) hC d_tb_turnAt_28 (by decide) ?_
    exact r_iret_pi hC hR d_tb_turnAt_29 rfl
  ·
    refine r_aload_n 0 hC d_tb_turnAt_11 rfl ?_
    refine r_getR (r := 7) hC d_tb_turnAt_12 fl_tb_26 rfl rfl rfl ?_
    refine r_iload_n 1 hC d_tb_turnAt_15 rfl ?_
    refine r_iald (n := 344) hC d_tb_turnAt_16 rfl (by decide) rfl rfl (tt_a344 (tt_turn_a c_8)).1 ?_
    refine r_aload_n 0 hC d_tb_turnAt_17 rfl ?_
    refine r_getR (r := 7) hC d_tb_turnAt_18 fl_tb_26 rfl rfl rfl ?_
    refine r_iload_n 1 hC d_tb_turnAt_21 rfl ?_
    refine r_iconst (v := 1) hC d_tb_turnAt_22 (by decide) ?_
    refine r_isub hC d_tb_turnAt_23 ?_
    refine r_iald (n := 344) hC d_tb_turnAt_24 rfl (by decide) rfl rfl (tt_a344 (tt_turn_a c_8)).2 ?_
    refine r_icmp_ne (tgt := 30) hC d_tb_turnAt_25 (by decide) (fun c_25 => ?_) (fun c_25 => ?_)
    ·
      refine r_iload_n 1 hC d_tb_turnAt_30 rfl ?_
      refine r_iconst (v := 1) hC d_tb_turnAt_31 (by decide) ?_
      refine r_iadd hC d_tb_turnAt_32 ?_
      refine r_istore_n [(2, .int (a1 + 1)), (0, .ref (tt_ad G 0)), (1, .int a1)] hC d_tb_turnAt_33 rfl (by decide) rfl ?_
      refine tt_cast [1, 2, 0] rfl rfl (l_tb_turnAt_34 hC st a1 (tt_turn_a c_8) 144  (a1 + 1) (by have h9 := (tt_turn_a c_8); have e := tt_addn (a := a1) (b := 1) (n := 1) rfl (by omega) (by omega); omega) ?_)
      refine r_aload_n 0 hC d_tb_turnAt_64 rfl ?_
      refine r_getR (r := 7) hC d_tb_turnAt_65 fl_tb_26 rfl rfl rfl ?_
      refine r_iload_n 1 hC d_tb_turnAt_68 rfl ?_
      refine r_iald (n := 344) hC d_tb_turnAt_69 rfl (by decide) rfl rfl (tt_a344 (tt_turn_a c_8)).1 ?_
      refine r_aload_n 0 hC d_tb_turnAt_70 rfl ?_
      refine r_getR (r := 7) hC d_tb_turnAt_71 fl_tb_26 rfl rfl rfl ?_
      refine r_iload_n 1 hC d_tb_turnAt_74 rfl ?_
      refine r_iconst (v := 1) hC d_tb_turnAt_75 (by decide) ?_
      refine r_isub hC d_tb_turnAt_76 ?_
      refine r_iald (n := 344) hC d_tb_turnAt_77 rfl (by decide) rfl rfl (tt_a344 (tt_turn_a c_8)).2 ?_
      refine r_callS (rest := []) (stk1 := [.int (in_compare (tt_A st 7 (Int32.toNatClampNeg a1)) (tt_A st 7 (Int32.toNatClampNeg (a1 - 1))))]) hC d_tb_turnAt_78 (c_in_compare G st (tt_A st 7 (Int32.toNatClampNeg a1)) (tt_A st 7 (Int32.toNatClampNeg (a1 - 1)))) mw_in_compare ms_in_compare ml_tb_215 rfl rfl rfl (Nat.le_of_ble_eq_true rfl) rfl ?_
      refine r_istore_n [(3, .int (in_compare (tt_A st 7 (Int32.toNatClampNeg a1)) (tt_A st 7 (Int32.toNatClampNeg (a1 - 1))))), (0, .ref (tt_ad G 0)), (1, .int a1), (2, .int (tb_turnAt_l34 st a1 144 (a1 + 1)))] hC d_tb_turnAt_81 rfl (by decide) rfl ?_
      refine r_aload_n 1 hC d_tb_turnAt_82 rfl ?_
      refine r_getR (r := 7) hC d_tb_turnAt_83 fl_tb_26 rfl rfl rfl ?_
      refine r_iload_n 3 hC d_tb_turnAt_86 rfl ?_
      refine r_iald (n := 344) hC d_tb_turnAt_87 rfl (by decide) rfl rfl (tb_turn_in (tt_turn_a c_8)) ?_
      refine r_aload_n 1 hC d_tb_turnAt_88 rfl ?_
      refine r_getR (r := 7) hC d_tb_turnAt_89 fl_tb_26 rfl rfl rfl ?_
      refine r_iload_n 2 hC d_tb_turnAt_92 rfl ?_
      refine r_iald (n := 344) hC d_tb_turnAt_93 rfl (by decide) rfl rfl (tt_a344 (tt_turn_a c_8)).1 ?_
      refine r_callS (rest := []) (stk1 := [.int (in_compare (tt_A st 7 (Int32.toNatClampNeg (tb_turnAt_l34 st a1 144 (a1 + 1)))) (tt_A st 7 (Int32.toNatClampNeg a1)))]) hC d_tb_turnAt_94 (c_in_compare G st (tt_A st 7 (Int32.toNatClampNeg (tb_turnAt_l34 st a1 144 (a1 + 1)))) (tt_A st 7 (Int32.toNatClampNeg a1))) mw_in_compare ms_in_compare ml_tb_215 rfl rfl rfl (Nat.le_of_ble_eq_true rfl) rfl ?_
      refine r_istore [(4, .int (in_compare (tt_A st 7 (Int32.toNatClampNeg (tb_turnAt_l34 st a1 144 (a1 + 1)))) (tt_A st 7 (Int32.toNatClampNeg a1)))), (3, .int (in_compare (tt_A st 7 (Int32.toNatClampNeg a1)) (tt_A st 7 (Int32.toNatClampNeg (a1 - 1))))), (0, .ref (tt_ad G 0)), (1, .int a1), (2, .int (tb_turnAt_l34 st a1 144 (a1 + 1)))] hC d_tb_turnAt_97 (by decide) rfl ?_
      refine r_iload_n 1 hC d_tb_turnAt_99 rfl ?_
      refine r_iload 0 hC d_tb_turnAt_100 rfl ?_
      refine r_ineg hC d_tb_turnAt_102 ?_
      refine r_icmp_ne (tgt := 110) hC d_tb_turnAt_103 (by decide) (fun c_103 => ?_) (fun c_103 => ?_)
      ·
        refine r_iconst (v := 0) hC d_tb_turnAt_110 (by decide) ?_
        exact r_iret_pi hC hR d_tb_turnAt_111 rfl
      ·
        refine r_iload_n 1 hC d_tb_turnAt_106 rfl ?_
        refine r_goto (tgt := 111) hC d_tb_turnAt_107 (by decide) ?_
        exact r_iret_pi hC hR d_tb_turnAt_111 rfl
    ·
      refine r_iconst (v := 0) hC d_tb_turnAt_28 (by decide) ?_
      exact r_iret_pi hC hR d_tb_turnAt_29 rfl
/-! TideTable.placeOfTide(I)I -/
def tb_placeOfTide_l4 (st : tt_St) (a1 : Int32) : Nat → Nat → Int32 → Int32
  | 0, j, x2 => (-10001)
  | n + 1, j, x2 => (if (tb_turnAt st (nI j)) = 0 then (tb_placeOfTide_l4 st a1 n (j + 1) x2) else (if x2 = a1 then (nI j) else (tb_placeOfTide_l4 st a1 n (j + 1) (x2 + 1))))
set_option maxHeartbeats 4000000 in
set_option maxRecDepth 20000 in
theorem l_tb_placeOfTide_4 {G : tt_G} {κ : tt_X (Int32)} (hC : tt_Cx G κ prog_1_method_39_code "TideTable" 4 2 46) (st : tt_St) (a1 : Int32)  (hR : tt_Rt G κ (some .int) (fun r => (some (.int r), st)))  : ∀ (n j : Nat) (x2 : Int32), j + n = 145 → tt_V G κ (tb_placeOfTide_l4 st a1 n j x2) st 4 [(0, .ref (tt_ad G 0)), (1, .int a1), (2, .int x2), (3, .int (nI j))] [] := by
  intro n
  induction n with
  | zero =>
    intro j x2 hj
    rw [tb_placeOfTide_l4]
    refine r_iload_n 3 hC d_tb_placeOfTide_4 rfl ?_
    refine r_sipush (v := 144) hC d_tb_placeOfTide_5 (by decide) ?_
    refine t_icmp_gt (tgt := 35) hC d_tb_placeOfTide_8 (by decide) (nI_lt (a := 144) (by omega) (by omega)) ?_
    refine r_sipush (v := (-10001)) hC d_tb_placeOfTide_35 (by decide) ?_
    exact r_iret_pi hC hR d_tb_placeOfTide_38 rfl
  | succ n ih =>
    intro j x2 hj
    rw [tb_placeOfTide_l4]
    refine r_iload_n 3 hC d_tb_placeOfTide_4 rfl ?_
    refine r_sipush (v := 144) hC d_tb_placeOfTide_5 (by decide) ?_
    refine f_icmp_gt (tgt := 35) hC d_tb_placeOfTide_8 (by decide) (nI_nlt (a := 144) (b := j) (by omega) (by omega)) ?_
    refine r_aload_n 0 hC d_tb_placeOfTide_11 rfl ?_
    refine r_iload_n 3 hC d_tb_placeOfTide_12 rfl ?_
    refine r_callV (o := 0) (rest := []) (stk1 := [.int (tb_turnAt st (nI j))]) hC d_tb_placeOfTide_13 (c_tb_turnAt G st (nI j)) mw_tb_turnAt mi_tb_turnAt mz_tb_turnAt ml_tb_132 rfl rfl rfl rfl rfl (Nat.le_of_ble_eq_true rfl) rfl ?_
    refine r_if_eq (tgt := 29) hC d_tb_placeOfTide_16 (by decide) (fun c_16 => ?_) (fun c_16 => ?_)
    ·
      refine r_iinc 3 (nI (j + 1)) [(3, .int (nI (j + 1))), (0, .ref (tt_ad G 0)), (1, .int a1), (2, .int x2)] hC d_tb_placeOfTide_29 rfl (by rw [nI_succ]; rfl) (by decide) rfl ?_
      refine r_goto (tgt := 4) hC d_tb_placeOfTide_32 (by decide) ?_
      exact tt_cast [1, 2, 3, 0] rfl rfl (ih (j + 1) x2 (by omega))
    ·
      refine r_iload_n 2 hC d_tb_placeOfTide_19 rfl ?_
      refine r_iload_n 1 hC d_tb_placeOfTide_20 rfl ?_
      refine r_icmp_ne (tgt := 26) hC d_tb_placeOfTide_21 (by decide) (fun c_21 => ?_) (fun c_21 => ?_)
      ·
        refine r_iinc 2 (x2 + 1) [(2, .int (x2 + 1)), (0, .ref (tt_ad G 0)), (1, .int a1), (3, .int (nI j))] hC d_tb_placeOfTide_26 rfl rfl (by decide) rfl ?_
        refine r_iinc 3 (nI (j + 1)) [(3, .int (nI (j + 1))), (2, .int (x2 + 1)), (0, .ref (tt_ad G 0)), (1, .int a1)] hC d_tb_placeOfTide_29 rfl (by rw [nI_succ]; rfl) (by decide) rfl ?_
        refine r_goto (tgt := 4) hC d_tb_placeOfTide_32 (by decide) ?_
        exact tt_cast [2, 3, 1, 0] rfl rfl (ih (j + 1) (x2 + 1) (by omega))
      ·
        refine r_iload_n 3 hC d_tb_placeOfTide_24 rfl ?_
        exact r_iret_pi hC hR d_tb_placeOfTide_25 rfl
def tb_placeOfTide (st : tt_St) (a1 : Int32) : Int32 := (tb_placeOfTide_l4 st a1 144 1 0)
set_option maxHeartbeats 4000000 in
set_option maxRecDepth 20000 in
theorem c_tb_placeOfTide (G : tt_G) (st : tt_St) (a1 : Int32)  : tt_C y_tb_placeOfTide prog_1_method_39_code 4 (some .int) 2 46 G [.ref (tt_ad G 0), .int a1] st (some (.int (tb_placeOfTide st a1))) st := by
  refine tt_enter_pi (T := (tb_placeOfTide st a1)) (by decide +kernel) (Nat.le_of_ble_eq_true rfl) (fun κ hC hR => ?_)
  rw [tb_placeOfTide]
  refine r_iconst (v := 0) hC d_tb_placeOfTide_0 (by decide) ?_
  refine r_istore_n [(2, .int 0), (0, .ref (tt_ad G 0)), (1, .int a1)] hC d_tb_placeOfTide_1 rfl (by decide) rfl ?_
  refine r_iconst (v := 1) hC d_tb_placeOfTide_2 (by decide) ?_
  refine r_istore_n [(3, .int 1), (2, .int 0), (0, .ref (tt_ad G 0)), (1, .int a1)] hC d_tb_placeOfTide_3 rfl (by decide) rfl ?_
  exact tt_cast [2, 3, 1, 0] rfl rfl (l_tb_placeOfTide_4 hC st a1 hR  144 1 0 (by omega))
/-! TideTable.firstOfGate(II)I -/
def tb_firstOfGate_l5 (st : tt_St) (a1 : Int32) (a2 : Int32) : Nat → Nat → Int32 → Int32
  | 0, j, x3 => (-10001)
  | n + 1, j, x3 => (if (tt_A st 7 (Int32.toNatClampNeg (nI j))) < a1 then (tb_firstOfGate_l5 st a1 a2 n (j + 1) x3) else (if (nI j) = 0 then (if x3 = a2 then (nI j) else (tb_firstOfGate_l5 st a1 a2 n (j + 1) (x3 + 1))) else (if a1 ≤ (tt_A st 7 (Int32.toNatClampNeg ((nI j) - 1))) then (tb_firstOfGate_l5 st a1 a2 n (j + 1) x3) else (if x3 = a2 then (nI j) else (tb_firstOfGate_l5 st a1 a2 n (j + 1) (x3 + 1))))))
set_option maxHeartbeats 4000000 in
set_option maxRecDepth 20000 in
theorem l_tb_firstOfGate_5 {G : tt_G} {κ : tt_X (Int32)} (hC : tt_Cx G κ prog_1_method_41_code "TideTable" 5 0 0) (st : tt_St) (a1 : Int32) (a2 : Int32)  (hR : tt_Rt G κ (some .int) (fun r => (some (.int r), st)))  : ∀ (n j : Nat) (x3 : Int32), j + n = 144 → tt_V G κ (tb_firstOfGate_l5 st a1 a2 n j x3) st 5 [(0, .ref (tt_ad G 0)), (1, .int a1), (2, .int a2), (3, .int x3), (4, .int (nI j))] [] := by
  intro n
  induction n with
  | zero =>
    intro j x3 hj
    rw [tb_firstOfGate_l5]
    refine r_iload 4 hC d_tb_firstOfGate_5 rfl ?_
    refine r_sipush (v := 144) hC d_tb_firstOfGate_7 (by decide) ?_
    refine t_icmp_ge (tgt := 59) hC d_tb_firstOfGate_10 (by decide) (nI_le (a := 144) (by omega) (by omega)) ?_
    refine r_sipush (v := (-10001)) hC d_tb_firstOfGate_59 (by decide) ?_
    exact r_iret_pi hC hR d_tb_firstOfGate_62 rfl
  | succ n ih =>
    intro j x3 hj
    rw [tb_firstOfGate_l5]
    refine r_iload 4 hC d_tb_firstOfGate_5 rfl ?_
    refine r_sipush (v := 144) hC d_tb_firstOfGate_7 (by decide) ?_
    refine f_icmp_ge (tgt := 59) hC d_tb_firstOfGate_10 (by decide) (nI_ge (a := j) (b := 144) (by omega) (by omega)) ?_
    refine r_aload_n 0 hC d_tb_firstOfGate_13 rfl ?_
    refine r_getR (r := 7) hC d_tb_firstOfGate_14 fl_tb_26 rfl rfl rfl ?_
    refine r_iload 4 hC d_tb_firstOfGate_17 rfl ?_
    refine r_iald (n := 344) hC d_tb_firstOfGate_19 rfl (by decide) rfl rfl (vp_in_nI (by omega) (by omega)) ?_
    refine r_iload_n 1 hC d_tb_firstOfGate_20 rfl ?_
    refine r_icmp_lt (tgt := 53) hC d_tb_firstOfGate_21 (by decide) (fun c_21 => ?_) (fun c_21 => ?_)
    ·
      refine r_iinc 4 (nI (j + 1)) [(4, .int (nI (j + 1))), (0, .ref (tt_ad G 0)), (1, .int a1), (2, .int a2), (3, .int x3)] hC d_tb_firstOfGate_53 rfl (by rw [nI_succ]; rfl) (by decide) rfl ?_
      refine r_goto (tgt := 5) hC d_tb_firstOfGate_56 (by decide) ?_
      exact tt_cast [1, 2, 3, 4, 0] rfl rfl (ih (j + 1) x3 (by omega))
    ·
      refine r_iload 4 hC d_tb_firstOfGate_24 rfl ?_
      refine r_if_eq (tgt := 42) hC d_tb_firstOfGate_26 (by decide) (fun c_26 => ?_) (fun c_26 => ?_)
      ·
        refine r_iload_n 3 hC d_tb_firstOfGate_42 rfl ?_
        refine r_iload_n 2 hC d_tb_firstOfGate_43 rfl ?_
        refine r_icmp_ne (tgt := 50) hC d_tb_firstOfGate_44 (by decide) (fun c_44 => ?_) (fun c_44 => ?_)
        ·
          refine r_iinc 3 (x3 + 1) [(3, .int (x3 + 1)), (0, .ref (tt_ad G 0)), (1, .int a1), (2, .int a2), (4, .int (nI j))] hC d_tb_firstOfGate_50 rfl rfl (by decide) rfl ?_
          refine r_iinc 4 (nI (j + 1)) [(4, .int (nI (j + 1))), (3, .int (x3 + 1)), (0, .ref (tt_ad G 0)), (1, .int a1), (2, .int a2)] hC d_tb_firstOfGate_53 rfl (by rw [nI_succ]; rfl) (by decide) rfl ?_
          refine r_goto (tgt := 5) hC d_tb_firstOfGate_56 (by decide) ?_
          exact tt_cast [2, 3, 4, 1, 0] rfl rfl (ih (j + 1) (x3 + 1) (by omega))
        ·
          refine r_iload 4 hC d_tb_firstOfGate_47 rfl ?_
          exact r_iret_pi hC hR d_tb_firstOfGate_49 rfl
      ·
        refine r_aload_n 0 hC d_tb_firstOfGate_29 rfl ?_
        refine r_getR (r := 7) hC d_tb_firstOfGate_30 fl_tb_26 rfl rfl rfl ?_
        refine r_iload 4 hC d_tb_firstOfGate_33 rfl ?_
        refine r_iconst (v := 1) hC d_tb_firstOfGate_35 (by decide) ?_
        refine r_isub hC d_tb_firstOfGate_36 ?_
        refine r_iald (n := 344) hC d_tb_firstOfGate_37 rfl (by decide) rfl rfl (tt_pred (by omega) (by decide) c_26) ?_
        refine r_iload_n 1 hC d_tb_firstOfGate_38 rfl ?_
        refine r_icmp_ge (tgt := 53) hC d_tb_firstOfGate_39 (by decide) (fun c_39 => ?_) (fun c_39 => ?_)
        ·
          refine r_iinc 4 (nI (j + 1)) [(4, .int (nI (j + 1))), (0, .ref (tt_ad G 0)), (1, .int a1), (2, .int a2), (3, .int x3)] hC d_tb_firstOfGate_53 rfl (by rw [nI_succ]; rfl) (by decide) rfl ?_
          refine r_goto (tgt := 5) hC d_tb_firstOfGate_56 (by decide) ?_
          exact tt_cast [1, 2, 3, 4, 0] rfl rfl (ih (j + 1) x3 (by omega))
        ·
          refine r_iload_n 3 hC d_tb_firstOfGate_42 rfl ?_
          refine r_iload_n 2 hC d_tb_firstOfGate_43 rfl ?_
          refine r_icmp_ne (tgt := 50) hC d_tb_firstOfGate_44 (by decide) (fun c_44 => ?_) (fun c_44 => ?_)
          ·
            refine r_iinc 3 (x3 + 1) [(3, .int (x3 + 1)), (0, .ref (tt_ad G 0)), (1, .int a1), (2, .int a2), (4, .int (nI j))] hC d_tb_firstOfGate_50 rfl rfl (by decide) rfl ?_
            refine r_iinc 4 (nI (j + 1)) [(4, .int (nI (j + 1))), (3, .int (x3 + 1)), (0, .ref (tt_ad G 0)), (1, .int a1), (2, .int a2)] hC d_tb_firstOfGate_53 rfl (by rw [nI_succ]; rfl) (by decide) rfl ?_
            refine r_goto (tgt := 5) hC d_tb_firstOfGate_56 (by decide) ?_
            exact tt_cast [2, 3, 4, 1, 0] rfl rfl (ih (j + 1) (x3 + 1) (by omega))
          ·
            refine r_iload 4 hC d_tb_firstOfGate_47 rfl ?_
            exact r_iret_pi hC hR d_tb_firstOfGate_49 rfl
def tb_firstOfGate (st : tt_St) (a1 : Int32) (a2 : Int32) : Int32 := (tb_firstOfGate_l5 st a1 a2 144 0 0)
set_option maxHeartbeats 4000000 in
set_option maxRecDepth 20000 in
theorem c_tb_firstOfGate (G : tt_G) (st : tt_St) (a1 : Int32) (a2 : Int32)  : tt_C y_tb_firstOfGate prog_1_method_41_code 5 (some .int) 0 0 G [.ref (tt_ad G 0), .int a1, .int a2] st (some (.int (tb_firstOfGate st a1 a2))) st := by
  refine tt_enter_pi (T := (tb_firstOfGate st a1 a2)) (by decide +kernel) (Nat.le_of_ble_eq_true rfl) (fun κ hC hR => ?_)
  rw [tb_firstOfGate]
  refine r_iconst (v := 0) hC d_tb_firstOfGate_0 (by decide) ?_
  refine r_istore_n [(3, .int 0), (0, .ref (tt_ad G 0)), (1, .int a1), (2, .int a2)] hC d_tb_firstOfGate_1 rfl (by decide) rfl ?_
  refine r_iconst (v := 0) hC d_tb_firstOfGate_2 (by decide) ?_
  refine r_istore [(4, .int 0), (3, .int 0), (0, .ref (tt_ad G 0)), (1, .int a1), (2, .int a2)] hC d_tb_firstOfGate_3 (by decide) rfl ?_
  exact tt_cast [2, 3, 4, 1, 0] rfl rfl (l_tb_firstOfGate_5 hC st a1 a2 hR  144 0 0 (by omega))
/-! TideTable.lastOfGate(II)I -/
def tb_lastOfGate_l2 (st : tt_St) (a1 : Int32) (a2 : Int32) : Nat → Int32 → Int32
  | 0, x3 => x3
  | n + 1, x3 => (if 144 ≤ (x3 + 1) then x3 else (if (tt_A st 7 (Int32.toNatClampNeg (x3 + 1))) < a1 then x3 else (tb_lastOfGate_l2 st a1 a2 n (x3 + 1))))
set_option maxHeartbeats 4000000 in
set_option maxRecDepth 20000 in
theorem l_tb_lastOfGate_2 {α : Type} {G : tt_G} {κ : tt_X α} {T : α} (hC : tt_Cx G κ prog_1_method_42_code "TideTable" 4 0 0) (st : tt_St) (a1 : Int32) (a2 : Int32) (hf : vp_in a2 144) : ∀ (n : Nat) (x3 : Int32), 0 ≤ x3.toInt ∧ x3.toInt ≤ 143 ∧ 144 ≤ x3.toInt + (n : Int) → tt_V G κ T st 29 [(3, .int (tb_lastOfGate_l2 st a1 a2 n x3))] [] → tt_V G κ T st 2 [(0, .ref (tt_ad G 0)), (1, .int a1), (3, .int x3)] [] := by
  intro n
  induction n with
  | zero =>
    intro x3 hx k
    exact absurd hx (by omega)
  | succ n ih =>
    intro x3 hx k
    refine r_iload_n 2 hC d_tb_lastOfGate_2 rfl ?_
    refine r_iconst (v := 1) hC d_tb_lastOfGate_3 (by decide) ?_
    refine r_iadd hC d_tb_lastOfGate_4 ?_
    refine r_sipush (v := 144) hC d_tb_lastOfGate_5 (by decide) ?_
    refine j_icmp_ge (tgt := 29) hC d_tb_lastOfGate_8 (by decide) (fun c_8 => ?_) (fun c_8 => ?_)
    ·
      exact tt_cast (lv' := [(3, .int x3)]) [2] rfl rfl (by simpa only [tb_lastOfGate_l2, if_pos c_8] using k)
    ·
      refine r_aload_n 0 hC d_tb_lastOfGate_11 rfl ?_
      refine r_getR (r := 7) hC d_tb_lastOfGate_12 fl_tb_26 rfl rfl rfl ?_
      refine r_iload_n 2 hC d_tb_lastOfGate_15 rfl ?_
      refine r_iconst (v := 1) hC d_tb_lastOfGate_16 (by decide) ?_
      refine r_iadd hC d_tb_lastOfGate_17 ?_
      refine r_iald (n := 344) hC d_tb_lastOfGate_18 rfl (by decide) rfl rfl (tt_last_i hx) ?_
      refine r_iload_n 1 hC d_tb_lastOfGate_19 rfl ?_
      refine j_icmp_lt (tgt := 29) hC d_tb_lastOfGate_20 (by decide) (fun c_20 => ?_) (fun c_20 => ?_)
      ·
        exact tt_cast (lv' := [(3, .int x3)]) [2] rfl rfl (by simpa only [tb_lastOfGate_l2, if_neg c_8, if_pos c_20] using k)
      ·
        refine r_iinc 2 (x3 + 1) [(3, .int (x3 + 1)), (0, .ref (tt_ad G 0)), (1, .int a1)] hC d_tb_lastOfGate_23 rfl rfl (by decide) rfl ?_
        refine r_goto (tgt := 2) hC d_tb_lastOfGate_26 (by decide) ?_
        exact tt_cast [1, 2, 0] rfl rfl (ih (x3 + 1) (tt_last_s hx c_8) (by simpa only [tb_lastOfGate_l2, if_neg c_8, if_neg c_20] using k))
def tb_lastOfGate (st : tt_St) (a1 : Int32) (a2 : Int32) : Int32 := (tb_lastOfGate_l2 st a1 a2 144 a2)
set_option maxHeartbeats 4000000 in
set_option maxRecDepth 20000 in
theorem c_tb_lastOfGate (G : tt_G) (st : tt_St) (a1 : Int32) (a2 : Int32) (hf : vp_in a2 144) : tt_C y_tb_lastOfGate prog_1_method_42_code 4 (some .int) 0 0 G [.ref (tt_ad G 0), .int a1, .int a2] st (some (.int (tb_lastOfGate st a1 a2))) st := by
  refine tt_enter_pi (T := (tb_lastOfGate st a1 a2)) (by decide +kernel) (Nat.le_of_ble_eq_true rfl) (fun κ hC hR => ?_)
  rw [tb_lastOfGate]
  refine r_iload_n 2 hC d_tb_lastOfGate_0 rfl ?_
  refine r_istore_n [(3, .int a2), (0, .ref (tt_ad G 0)), (1, .int a1), (2, .int a2)] hC d_tb_lastOfGate_1 rfl (by decide) rfl ?_
  refine tt_cast [1, 2, 0] rfl rfl (l_tb_lastOfGate_2 hC st a1 a2 hf 144  a2 (by have h9 := tt_in_lt hf; omega) ?_)
  refine r_iload_n 0 hC d_tb_lastOfGate_29 rfl ?_
  exact r_iret_pi hC hR d_tb_lastOfGate_30 rfl
/-! TideTable.tripFrom(II)I -/
def tb_tripFrom_l5 (st : tt_St) (a1 : Int32) (a2 : Int32) : Nat → Nat → Int32 → Int32
  | 0, j, x3 => (-10001)
  | n + 1, j, x3 => (if (x3 + (ma_max 0 (a2 + (ma_floorDiv ((tt_A st 7 (Int32.toNatClampNeg ((a1 + (nI j)) - 1))) - (tt_A st 8 (Int32.toNatClampNeg ((a1 + (nI j)) - 1)))) 20)))) < 300 then (tb_tripFrom_l5 st a1 a2 n (j + 1) (x3 + (ma_max 0 (a2 + (ma_floorDiv ((tt_A st 7 (Int32.toNatClampNeg ((a1 + (nI j)) - 1))) - (tt_A st 8 (Int32.toNatClampNeg ((a1 + (nI j)) - 1)))) 20))))) else (nI j))
set_option maxHeartbeats 4000000 in
set_option maxRecDepth 20000 in
theorem l_tb_tripFrom_5 {G : tt_G} {κ : tt_X (Int32)} (hC : tt_Cx G κ prog_1_method_43_code "TideTable" 6 1 22) (st : tt_St) (a1 : Int32) (a2 : Int32)  (hR : tt_Rt G κ (some .int) (fun r => (some (.int r), st))) (hp : vp_in a1 144) : ∀ (n j : Nat) (x3 : Int32), j + n = 201 → 1 ≤ j → tt_V G κ (tb_tripFrom_l5 st a1 a2 n j x3) st 5 [(0, .ref (tt_ad G 0)), (1, .int a1), (2, .int a2), (3, .int x3), (4, .int (nI j))] [] := by
  intro n
  induction n with
  | zero =>
    intro j x3 hj h1
    rw [tb_tripFrom_l5]
    refine r_iload 4 hC d_tb_tripFrom_5 rfl ?_
    refine r_sipush (v := 200) hC d_tb_tripFrom_7 (by decide) ?_
    refine t_icmp_gt (tgt := 66) hC d_tb_tripFrom_10 (by decide) (nI_lt (a := 200) (by omega) (by omega)) ?_
    refine r_sipush (v := (-10001)) hC d_tb_tripFrom_66 (by decide) ?_
    exact r_iret_pi hC hR d_tb_tripFrom_69 rfl
  | succ n ih =>
    intro j x3 hj h1
    rw [tb_tripFrom_l5]
    refine r_iload 4 hC d_tb_tripFrom_5 rfl ?_
    refine r_sipush (v := 200) hC d_tb_tripFrom_7 (by decide) ?_
    refine f_icmp_gt (tgt := 66) hC d_tb_tripFrom_10 (by decide) (nI_nlt (a := 200) (b := j) (by omega) (by omega)) ?_
    refine r_iload_n 1 hC d_tb_tripFrom_13 rfl ?_
    refine r_iload 4 hC d_tb_tripFrom_14 rfl ?_
    refine r_iadd hC d_tb_tripFrom_16 ?_
    refine r_iconst (v := 1) hC d_tb_tripFrom_17 (by decide) ?_
    refine r_isub hC d_tb_tripFrom_18 ?_
    refine r_istore [(5, .int ((a1 + (nI j)) - 1)), (0, .ref (tt_ad G 0)), (1, .int a1), (2, .int a2), (3, .int x3), (4, .int (nI j))] hC d_tb_tripFrom_19 (by decide) rfl ?_
    refine r_iload_n 4 hC d_tb_tripFrom_21 rfl ?_
    refine r_iconst (v := 0) hC d_tb_tripFrom_22 (by decide) ?_
    refine r_iload_n 3 hC d_tb_tripFrom_23 rfl ?_
    refine r_aload_n 1 hC d_tb_tripFrom_24 rfl ?_
    refine r_getR (r := 7) hC d_tb_tripFrom_25 fl_tb_26 rfl rfl rfl ?_
    refine r_iload 0 hC d_tb_tripFrom_28 rfl ?_
    refine r_iald (n := 344) hC d_tb_tripFrom_30 rfl (by decide) rfl rfl (tt_trip_i hp (by omega) (by omega)) ?_
    refine r_aload_n 1 hC d_tb_tripFrom_31 rfl ?_
    refine r_getR (r := 8) hC d_tb_tripFrom_32 fl_tb_30 rfl rfl rfl ?_
    refine r_iload 0 hC d_tb_tripFrom_35 rfl ?_
    refine r_iald (n := 344) hC d_tb_tripFrom_37 rfl (by decide) rfl rfl (tt_trip_i hp (by omega) (by omega)) ?_
    refine r_isub hC d_tb_tripFrom_38 ?_
    refine r_bipush (v := 20) hC d_tb_tripFrom_39 (by decide) ?_
    refine r_callS (rest := [.int a2, .int 0, .int x3]) (stk1 := [.int (ma_floorDiv ((tt_A st 7 (Int32.toNatClampNeg ((a1 + (nI j)) - 1))) - (tt_A st 8 (Int32.toNatClampNeg ((a1 + (nI j)) - 1)))) 20), .int a2, .int 0, .int x3]) hC d_tb_tripFrom_41 (c_ma_floorDiv G st ((tt_A st 7 (Int32.toNatClampNeg ((a1 + (nI j)) - 1))) - (tt_A st 8 (Int32.toNatClampNeg ((a1 + (nI j)) - 1)))) 20 (by decide)) mw_ma_floorDiv ms_ma_floorDiv ml_tb_218 rfl rfl rfl (Nat.le_of_ble_eq_true rfl) rfl ?_
    refine r_iadd hC d_tb_tripFrom_44 ?_
    refine r_callS (rest := [.int x3]) (stk1 := [.int (ma_max 0 (a2 + (ma_floorDiv ((tt_A st 7 (Int32.toNatClampNeg ((a1 + (nI j)) - 1))) - (tt_A st 8 (Int32.toNatClampNeg ((a1 + (nI j)) - 1)))) 20))), .int x3]) hC d_tb_tripFrom_45 (c_ma_max G st 0 (a2 + (ma_floorDiv ((tt_A st 7 (Int32.toNatClampNeg ((a1 + (nI j)) - 1))) - (tt_A st 8 (Int32.toNatClampNeg ((a1 + (nI j)) - 1)))) 20))) mw_ma_max ms_ma_max ml_tb_208 rfl rfl rfl (Nat.le_of_ble_eq_true rfl) rfl ?_
    refine r_iadd hC d_tb_tripFrom_48 ?_
    refine r_istore_n [(3, .int (x3 + (ma_max 0 (a2 + (ma_floorDiv ((tt_A st 7 (Int32.toNatClampNeg ((a1 + (nI j)) - 1))) - (tt_A st 8 (Int32.toNatClampNeg ((a1 + (nI j)) - 1)))) 20))))), (5, .int ((a1 + (nI j)) - 1)), (0, .ref (tt_ad G 0)), (1, .int a1), (2, .int a2), (4, .int (nI j))] hC d_tb_tripFrom_49 rfl (by decide) rfl ?_
    refine r_iload_n 0 hC d_tb_tripFrom_50 rfl ?_
    refine r_sipush (v := 300) hC d_tb_tripFrom_51 (by decide) ?_
    refine r_icmp_lt (tgt := 60) hC d_tb_tripFrom_54 (by decide) (fun c_54 => ?_) (fun c_54 => ?_)
    ·
      refine r_iinc 5 (nI (j + 1)) [(4, .int (nI (j + 1))), (3, .int (x3 + (ma_max 0 (a2 + (ma_floorDiv ((tt_A st 7 (Int32.toNatClampNeg ((a1 + (nI j)) - 1))) - (tt_A st 8 (Int32.toNatClampNeg ((a1 + (nI j)) - 1)))) 20))))), (5, .int ((a1 + (nI j)) - 1)), (0, .ref (tt_ad G 0)), (1, .int a1), (2, .int a2)] hC d_tb_tripFrom_60 rfl (by rw [nI_succ]; rfl) (by decide) rfl ?_
      refine r_goto (tgt := 5) hC d_tb_tripFrom_63 (by decide) ?_
      exact tt_cast [3, 4, 5, 1, 0] rfl rfl (ih (j + 1) (x3 + (ma_max 0 (a2 + (ma_floorDiv ((tt_A st 7 (Int32.toNatClampNeg ((a1 + (nI j)) - 1))) - (tt_A st 8 (Int32.toNatClampNeg ((a1 + (nI j)) - 1)))) 20)))) (by omega) (by omega))
    ·
      refine r_iload 5 hC d_tb_tripFrom_57 rfl ?_
      exact r_iret_pi hC hR d_tb_tripFrom_59 rfl
def tb_tripFrom (st : tt_St) (a1 : Int32) (a2 : Int32) : Int32 := (tb_tripFrom_l5 st a1 a2 200 1 0)
set_option maxHeartbeats 4000000 in
set_option maxRecDepth 20000 in
theorem c_tb_tripFrom (G : tt_G) (st : tt_St) (a1 : Int32) (a2 : Int32) (hp : vp_in a1 144) : tt_C y_tb_tripFrom prog_1_method_43_code 6 (some .int) 1 22 G [.ref (tt_ad G 0), .int a1, .int a2] st (some (.int (tb_tripFrom st a1 a2))) st := by
  refine tt_enter_pi (T := (tb_tripFrom st a1 a2)) (by decide +kernel) (Nat.le_of_ble_eq_true rfl) (fun κ hC hR => ?_)
  rw [tb_tripFrom]
  refine r_iconst (v := 0) hC d_tb_tripFrom_0 (by decide) ?_
  refine r_istore_n [(3, .int 0), (0, .ref (tt_ad G 0)), (1, .int a1), (2, .int a2)] hC d_tb_tripFrom_1 rfl (by decide) rfl ?_
  refine r_iconst (v := 1) hC d_tb_tripFrom_2 (by decide) ?_
  refine r_istore [(4, .int 1), (3, .int 0), (0, .ref (tt_ad G 0)), (1, .int a1), (2, .int a2)] hC d_tb_tripFrom_3 (by decide) rfl ?_
  exact tt_cast [2, 3, 4, 1, 0] rfl rfl (l_tb_tripFrom_5 hC st a1 a2 hR hp 200 1 0 (by omega) (by decide))

/-! TideTable$Page.readInto(LTideTable$Sea;)V -/
def pg_readInto_l12 (a1 : Nat) : Nat → Int32 → tt_St → Int32 × tt_St
  | 0, x2, st => (x2, st)
  | n + 1, x2, st => (if (tt_I st 1 1) ≤ x2 then (x2, st) else (if 4 ≤ (tt_I st a1 1) then (x2, st) else (pg_readInto_l12 a1 n ((pg_readPort st x2 (tt_po a1 (Int32.toNatClampNeg (tt_I st a1 1)))).1 + 1) (tt_pI ((pg_readPort st x2 (tt_po a1 (Int32.toNatClampNeg (tt_I st a1 1)))).2) a1 1 ((tt_I ((pg_readPort st x2 (tt_po a1 (Int32.toNatClampNeg (tt_I st a1 1)))).2) a1 1) + 1)))))
set_option maxHeartbeats 4000000 in
set_option maxRecDepth 20000 in
theorem l_pg_readInto_12 {α : Type} {G : tt_G} {κ : tt_X α} {T : α} (hC : tt_Cx G κ prog_2_method_7_code "TideTable$Page" 3 6 135) (a1 : Nat) (h1 : tt_ci a1 = 2) : ∀ (n : Nat) (x2 : Int32) (st : tt_St), tb_ok st → 0 ≤ x2.toInt ∧ x2.toInt ≤ 111 → 0 ≤ (tt_I st a1 1).toInt ∧ (tt_I st a1 1).toInt ≤ 4 ∧ 5 ≤ (tt_I st a1 1).toInt + (n : Int) → tt_V G κ T ((pg_readInto_l12 a1 n x2 st).2) 58 [] [] → tt_V G κ T st 12 [(0, .ref (tt_ad G 1)), (1, .ref (tt_ad G a1)), (2, .int x2)] [] := by
  intro n
  induction n with
  | zero =>
    intro x2 st hI hx hm k
    exact absurd hm (by omega)
  | succ n ih =>
    intro x2 st hI hx hm k
    refine r_iload_n 2 hC d_pg_readInto_12 rfl ?_
    refine r_aload_n 0 hC d_pg_readInto_13 rfl ?_
    refine r_getI hC d_pg_readInto_14 fl_pg_22 rfl rfl ?_
    refine j_icmp_ge (tgt := 58) hC d_pg_readInto_17 (by decide) (fun c_17 => ?_) (fun c_17 => ?_)
    ·
      exact tt_cast (lv' := []) [] rfl rfl (by simpa only [pg_readInto_l12, if_pos c_17] using k)
    ·
      refine r_aload_n 1 hC d_pg_readInto_20 rfl ?_
      refine r_getI hC d_pg_readInto_21 fl_pg_51 rfl h1 ?_
      refine r_iconst (v := 4) hC d_pg_readInto_24 (by decide) ?_
      refine j_icmp_ge (tgt := 58) hC d_pg_readInto_25 (by decide) (fun c_25 => ?_) (fun c_25 => ?_)
      ·
        exact tt_cast (lv' := []) [] rfl rfl (by simpa only [pg_readInto_l12, if_neg c_17, if_pos c_25] using k)
      ·
        refine r_aload_n 0 hC d_pg_readInto_28 rfl ?_
        refine r_iload_n 2 hC d_pg_readInto_29 rfl ?_
        refine r_aload_n 1 hC d_pg_readInto_30 rfl ?_
        refine r_getR (r := (a1 + 2)) hC d_pg_readInto_31 fl_pg_57 rfl h1 (tt_R_se h1) ?_
        refine r_aload_n 1 hC d_pg_readInto_34 rfl ?_
        refine r_getI hC d_pg_readInto_35 fl_pg_51 rfl h1 ?_
        have hb_38 : vp_in (tt_I st a1 1) 4 := (pg_sm_in hm c_25)
        refine r_aald (r := (tt_po a1 (Int32.toNatClampNeg (tt_I st a1 1)))) (C := "TideTable$Port") hC d_pg_readInto_38 (tt_ar_se h1).1 (tt_ar_se h1).2.1 (tt_ar_se h1).2.2.1 (by decide) (fun _ => rfl) (tt_ar_se h1).2.2.2 hb_38 (tt_po_RA h1) ?_
        refine r_callV (o := 1) (rest := []) (stk1 := [.int (pg_readPort st x2 (tt_po a1 (Int32.toNatClampNeg (tt_I st a1 1)))).1]) hC d_pg_readInto_39 (c_pg_readPort G st x2 (tt_po a1 (Int32.toNatClampNeg (tt_I st a1 1))) hI (pg_rp_i hI hx.1 c_17) (tt_po_ci h1 hb_38)) mw_pg_readPort mi_pg_readPort mz_pg_readPort ml_pg_61 rfl rfl rfl rfl rfl (Nat.le_of_ble_eq_true rfl) rfl ?_
        refine r_iconst (v := 1) hC d_pg_readInto_42 (by decide) ?_
        refine r_iadd hC d_pg_readInto_43 ?_
        refine r_istore_n [(2, .int ((pg_readPort st x2 (tt_po a1 (Int32.toNatClampNeg (tt_I st a1 1)))).1 + 1)), (0, .ref (tt_ad G 1)), (1, .ref (tt_ad G a1))] hC d_pg_readInto_44 rfl (by decide) rfl ?_
        refine r_aload_n 2 hC d_pg_readInto_45 rfl ?_
        refine r_dup hC d_pg_readInto_46 rfl ?_
        refine r_getI hC d_pg_readInto_47 fl_pg_51 rfl h1 ?_
        refine r_iconst (v := 1) hC d_pg_readInto_50 (by decide) ?_
        refine r_iadd hC d_pg_readInto_51 ?_
        refine r_putI hC d_pg_readInto_52 fl_pg_51 fp_2_1 rfl h1 rfl rfl ?_
        refine r_goto (tgt := 12) hC d_pg_readInto_55 (by decide) ?_
        exact tt_cast [1, 2, 0] rfl rfl (ih ((pg_readPort st x2 (tt_po a1 (Int32.toNatClampNeg (tt_I st a1 1)))).1 + 1) (tt_pI ((pg_readPort st x2 (tt_po a1 (Int32.toNatClampNeg (tt_I st a1 1)))).2) a1 1 ((tt_I ((pg_readPort st x2 (tt_po a1 (Int32.toNatClampNeg (tt_I st a1 1)))).2) a1 1) + 1)) (pg_ri_m hI h1 (pg_rp_i hI hx.1 c_17) (tt_po_ci h1 hb_38) hm c_25).1 (pg_ri_m hI h1 (pg_rp_i hI hx.1 c_17) (tt_po_ci h1 hb_38) hm c_25).2.1 (pg_ri_m hI h1 (pg_rp_i hI hx.1 c_17) (tt_po_ci h1 hb_38) hm c_25).2.2 (by simpa only [pg_readInto_l12, if_neg c_17, if_neg c_25] using k))
def pg_readInto (st : tt_St) (a1 : Nat) : tt_St := ((pg_readInto_l12 a1 5 0 (tt_pI (tt_pI st a1 1 0) a1 2 0)).2)
set_option maxHeartbeats 4000000 in
set_option maxRecDepth 20000 in
theorem c_pg_readInto (G : tt_G) (st : tt_St) (a1 : Nat) (hI : tb_ok st) (h1 : tt_ci a1 = 2) : tt_C y_pg_readInto prog_2_method_7_code 3 none 6 135 G [.ref (tt_ad G 1), .ref (tt_ad G a1)] st none (pg_readInto st a1) := by
  refine tt_enter_sv (T := (pg_readInto st a1)) (by decide +kernel) (Nat.le_of_ble_eq_true rfl) (fun κ hC hR => ?_)
  rw [pg_readInto]
  refine r_aload_n 1 hC d_pg_readInto_0 rfl ?_
  refine r_iconst (v := 0) hC d_pg_readInto_1 (by decide) ?_
  refine r_putI hC d_pg_readInto_2 fl_pg_51 fp_2_1 rfl h1 rfl rfl ?_
  refine r_aload_n 1 hC d_pg_readInto_5 rfl ?_
  refine r_iconst (v := 0) hC d_pg_readInto_6 (by decide) ?_
  refine r_putI hC d_pg_readInto_7 fl_pg_54 fp_2_2 rfl h1 rfl rfl ?_
  refine r_iconst (v := 0) hC d_pg_readInto_10 (by decide) ?_
  refine r_istore_n [(2, .int 0), (0, .ref (tt_ad G 1)), (1, .ref (tt_ad G a1))] hC d_pg_readInto_11 rfl (by decide) rfl ?_
  refine tt_cast [1, 2, 0] rfl rfl (l_pg_readInto_12 hC a1 h1 5  0 (tt_pI (tt_pI st a1 1 0) a1 2 0) (tb_ok_pI (tb_ok_s1 hI h1 (by decide)) (by decide) (by decide)) (by decide) (by rw [tt_pI_nf (by decide)]; simp [tt_I, tt_pI]) ?_)
  exact r_vret_sv hC hR d_pg_readInto_58
/-! TideTable.ports()I -/
def tb_ports_k7  (y0 : Int32) (st : tt_St) : Int32 × tt_St := (if y0 = 0 then ((-10103), st) else ((tt_I (tt_pI (tt_pI (tt_pI (pg_readInto st 3) 1 1 0) 0 3 0) 0 4 ((tt_I (tt_pI (tt_pI (pg_readInto st 3) 1 1 0) 0 3 0) 0 4) + 1)) 3 1), tt_pI (tt_pI (tt_pI (pg_readInto st 3) 1 1 0) 0 3 0) 0 4 ((tt_I (tt_pI (tt_pI (pg_readInto st 3) 1 1 0) 0 3 0) 0 4) + 1)))
set_option maxHeartbeats 4000000 in
set_option maxRecDepth 20000 in
theorem l_tb_ports_7 {G : tt_G} {κ : tt_X (Int32 × tt_St)} (hC : tt_Cx G κ prog_1_method_5_code "TideTable" 1 8 180)  (hR : tt_Rt G κ (some .int) (fun r => (some (.int r.1), r.2)))  (y0 : Int32) (st : tt_St) (hI : tb_ok st) : tt_V G κ (tb_ports_k7 y0 st) st 7 [(0, .ref (tt_ad G 0))] [.int y0] := by
  rw [tb_ports_k7]
  refine r_if_ne (tgt := 14) hC d_tb_ports_7 (by decide) (fun c_7 => ?_) (fun c_7 => ?_)
  ·
    refine r_aload_n 0 hC d_tb_ports_14 rfl ?_
    refine r_getR (r := 1) hC d_tb_ports_15 fl_tb_12 rfl rfl rfl ?_
    refine r_aload_n 0 hC d_tb_ports_18 rfl ?_
    refine r_getR (r := 3) hC d_tb_ports_19 fl_tb_19 rfl rfl rfl ?_
    refine r_callV (o := 1) (rest := []) (stk1 := []) hC d_tb_ports_22 (c_pg_readInto G st 3 hI rfl) mw_pg_readInto mi_pg_readInto mz_pg_readInto ml_tb_52 rfl rfl rfl rfl rfl (Nat.le_of_ble_eq_true rfl) rfl ?_
    refine r_aload_n 0 hC d_tb_ports_25 rfl ?_
    refine r_getR (r := 1) hC d_tb_ports_26 fl_tb_12 rfl rfl rfl ?_
    refine r_iconst (v := 0) hC d_tb_ports_29 (by decide) ?_
    refine r_putI hC d_tb_ports_30 fl_tb_37 fp_0_1 rfl rfl rfl rfl ?_
    refine r_aload_n 0 hC d_tb_ports_33 rfl ?_
    refine r_iconst (v := 0) hC d_tb_ports_34 (by decide) ?_
    refine r_putI hC d_tb_ports_35 fl_tb_56 fp_4_3 rfl rfl rfl rfl ?_
    refine r_aload_n 0 hC d_tb_ports_38 rfl ?_
    refine r_dup hC d_tb_ports_39 rfl ?_
    refine r_getI hC d_tb_ports_40 fl_tb_60 rfl rfl ?_
    refine r_iconst (v := 1) hC d_tb_ports_43 (by decide) ?_
    refine r_iadd hC d_tb_ports_44 ?_
    refine r_putI hC d_tb_ports_45 fl_tb_60 fp_4_4 rfl rfl rfl rfl ?_
    refine r_aload_n 0 hC d_tb_ports_48 rfl ?_
    refine r_getR (r := 3) hC d_tb_ports_49 fl_tb_19 rfl rfl rfl ?_
    refine r_getI hC d_tb_ports_52 fl_tb_63 rfl rfl ?_
    exact r_iret_si hC hR d_tb_ports_55 rfl
  ·
    refine r_sipush (v := (-10103)) hC d_tb_ports_10 (by decide) ?_
    exact r_iret_si hC hR d_tb_ports_13 rfl
def tb_ports (st : tt_St) : Int32 × tt_St := (tb_ports_k7 ((pg_isWhole st).1) ((pg_isWhole st).2))
set_option maxHeartbeats 4000000 in
set_option maxRecDepth 20000 in
theorem c_tb_ports (G : tt_G) (st : tt_St)  (hI : tb_ok st) : tt_C y_tb_ports prog_1_method_5_code 1 (some .int) 8 180 G [.ref (tt_ad G 0)] st (some (.int (tb_ports st).1)) (tb_ports st).2 := by
  refine tt_enter_si (T := (tb_ports st)) (by decide +kernel) (Nat.le_of_ble_eq_true rfl) (fun κ hC hR => ?_)
  rw [tb_ports]
  refine r_aload_n 0 hC d_tb_ports_0 rfl ?_
  refine r_getR (r := 1) hC d_tb_ports_1 fl_tb_12 rfl rfl rfl ?_
  refine r_callV (o := 1) (rest := []) (stk1 := [.int (pg_isWhole st).1]) hC d_tb_ports_4 (c_pg_isWhole G st hI) mw_pg_isWhole mi_pg_isWhole mz_pg_isWhole ml_tb_48 rfl rfl rfl rfl rfl (Nat.le_of_ble_eq_true rfl) rfl ?_
  exact tt_cast [0] rfl rfl (l_tb_ports_7 hC  hR  ((pg_isWhole st).1) ((pg_isWhole st).2) (pg_iw_ok hI))

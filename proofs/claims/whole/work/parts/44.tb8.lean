/-! TideTable$Sea.become(LTideTable$Sea;)V -/
def se_become_l18 (o : Nat) (a1 : Nat) (m : Nat) : Nat → Nat → tt_St → tt_St
  | 0, j, st => st
  | n + 1, j, st => (se_become_l18 o a1 m n (j + 1) (po_become st (tt_po o (Int32.toNatClampNeg (nI j))) (tt_po a1 (Int32.toNatClampNeg (nI j)))))
set_option maxHeartbeats 4000000 in
set_option maxRecDepth 20000 in
theorem l_se_become_18 {α : Type} {G : tt_G} {κ : tt_X α} {T : α} (hC : tt_Cx G κ prog_4_method_2_code "TideTable$Sea" 3 3 69) (o : Nat) (a1 : Nat) (m : Nat) (ho : tt_ci o = 2) (h1 : tt_ci a1 = 2) (hne : a1 ≠ o) (hm : m ≤ 4) : ∀ (n j : Nat) (st : tt_St), j + n = m → tb_ok st → tt_I st o 1 = nI m → tt_V G κ T (se_become_l18 o a1 m n j st) 47 [] [] → tt_V G κ T st 18 [(0, .ref (tt_ad G o)), (1, .ref (tt_ad G a1)), (2, .int (nI j))] [] := by
  intro n
  induction n with
  | zero =>
    intro j st hj hI hb k
    refine r_iload_n 2 hC d_se_become_18 rfl ?_
    refine r_aload_n 0 hC d_se_become_19 rfl ?_
    refine r_getI hC d_se_become_20 fl_se_18 rfl ho ?_
    refine t_icmp_ge (tgt := 47) hC d_se_become_23 (by decide) (by rw [hb]; exact nI_le (by omega) (by omega)) ?_
    exact tt_cast [] rfl rfl k
  | succ n ih =>
    intro j st hj hI hb k
    refine r_iload_n 2 hC d_se_become_18 rfl ?_
    refine r_aload_n 0 hC d_se_become_19 rfl ?_
    refine r_getI hC d_se_become_20 fl_se_18 rfl ho ?_
    refine f_icmp_ge (tgt := 47) hC d_se_become_23 (by decide) (by rw [hb]; exact nI_ge (a := j) (b := m) (by omega) (by omega)) ?_
    refine r_aload_n 0 hC d_se_become_26 rfl ?_
    refine r_getR (r := (o + 2)) hC d_se_become_27 fl_se_11 rfl ho (tt_R_se ho) ?_
    refine r_iload_n 2 hC d_se_become_30 rfl ?_
    have hb_31 : vp_in (nI j) 4 := (vp_in_nI (by omega) (by omega))
    refine r_aald (r := (tt_po o (Int32.toNatClampNeg (nI j)))) (C := "TideTable$Port") hC d_se_become_31 (tt_ar_se ho).1 (tt_ar_se ho).2.1 (tt_ar_se ho).2.2.1 (by decide) (fun _ => rfl) (tt_ar_se ho).2.2.2 hb_31 (tt_po_RA ho) ?_
    refine r_aload_n 1 hC d_se_become_32 rfl ?_
    refine r_getR (r := (a1 + 2)) hC d_se_become_33 fl_se_11 rfl h1 (tt_R_se h1) ?_
    refine r_iload_n 2 hC d_se_become_36 rfl ?_
    have hb_37 : vp_in (nI j) 4 := (vp_in_nI (by omega) (by omega))
    refine r_aald (r := (tt_po a1 (Int32.toNatClampNeg (nI j)))) (C := "TideTable$Port") hC d_se_become_37 (tt_ar_se h1).1 (tt_ar_se h1).2.1 (tt_ar_se h1).2.2.1 (by decide) (fun _ => rfl) (tt_ar_se h1).2.2.2 hb_37 (tt_po_RA h1) ?_
    refine r_callV (o := (tt_po o (Int32.toNatClampNeg (nI j)))) (rest := []) (stk1 := []) hC d_se_become_38 (c_po_become G st (tt_po o (Int32.toNatClampNeg (nI j))) (tt_po a1 (Int32.toNatClampNeg (nI j))) (tt_po_ci ho hb_31) hI (tt_po_ci h1 hb_37) (tt_po_ne ho h1 hne hb_37)) mw_po_become mi_po_become mz_po_become ml_se_25 (tt_po_ci ho hb_31) rfl rfl rfl rfl (Nat.le_of_ble_eq_true rfl) rfl ?_
    refine r_iinc 2 (nI (j + 1)) [(2, .int (nI (j + 1))), (0, .ref (tt_ad G o)), (1, .ref (tt_ad G a1))] hC d_se_become_41 rfl (by rw [nI_succ]; rfl) (by decide) rfl ?_
    refine r_goto (tgt := 18) hC d_se_become_44 (by decide) ?_
    exact tt_cast [1, 2, 0] rfl rfl (ih (j + 1) (po_become st (tt_po o (Int32.toNatClampNeg (nI j))) (tt_po a1 (Int32.toNatClampNeg (nI j)))) (by omega) (po_become_ok hI (tt_po_ci ho hb_31)) (by rw [po_become_ne hI (tt_po_ci ho hb_31) (tt_se_nepo ho (tt_po_ci ho hb_31)) (by omega)]; exact hb) (by simpa only [se_become_l18] using k))
def se_become (st : tt_St) (o : Nat) (a1 : Nat) : tt_St := (se_become_l18 o a1 (Int32.toNatClampNeg (tt_I st a1 1)) (Int32.toNatClampNeg (tt_I st a1 1)) 0 (tt_pI (tt_pI st o 1 (tt_I st a1 1)) o 2 (tt_I (tt_pI st o 1 (tt_I st a1 1)) a1 2)))
set_option maxHeartbeats 4000000 in
set_option maxRecDepth 20000 in
theorem c_se_become (G : tt_G) (st : tt_St) (o : Nat) (a1 : Nat) (ho : tt_ci o = 2) (hI : tb_ok st) (h1 : tt_ci a1 = 2) (hne : a1 ≠ o) : tt_C y_se_become prog_4_method_2_code 3 none 3 69 G [.ref (tt_ad G o), .ref (tt_ad G a1)] st none (se_become st o a1) := by
  refine tt_enter_sv (T := (se_become st o a1)) (by decide +kernel) (Nat.le_of_ble_eq_true rfl) (fun κ hC hR => ?_)
  rw [se_become]
  refine r_aload_n 0 hC d_se_become_0 rfl ?_
  refine r_aload_n 1 hC d_se_become_1 rfl ?_
  refine r_getI hC d_se_become_2 fl_se_18 rfl h1 ?_
  refine r_putI hC d_se_become_5 fl_se_18 fp_2_1 rfl ho rfl rfl ?_
  refine r_aload_n 0 hC d_se_become_8 rfl ?_
  refine r_aload_n 1 hC d_se_become_9 rfl ?_
  refine r_getI hC d_se_become_10 fl_se_22 rfl h1 ?_
  refine r_putI hC d_se_become_13 fl_se_22 fp_2_2 rfl ho rfl rfl ?_
  refine r_iconst (v := 0) hC d_se_become_16 (by decide) ?_
  refine r_istore_n [(2, .int 0), (0, .ref (tt_ad G o)), (1, .ref (tt_ad G a1))] hC d_se_become_17 rfl (by decide) rfl ?_
  refine tt_cast [1, 2, 0] rfl rfl (l_se_become_18 hC o a1 (Int32.toNatClampNeg (tt_I st a1 1)) ho h1 hne (tt_cle (hI.2.1 a1 h1).2) (Int32.toNatClampNeg (tt_I st a1 1)) 0 (tt_pI (tt_pI st o 1 (tt_I st a1 1)) o 2 (tt_I (tt_pI st o 1 (tt_I st a1 1)) a1 2)) (by omega) (tb_ok_pI (tb_ok_s1 hI ho (hI.2.1 a1 h1)) (by decide) (by decide)) (by rw [se_b0 hne]; exact (tt_nIc (hI.2.1 a1 h1).1).symm) ?_)
  exact r_vret_sv hC hR d_se_become_47
/-! TideTable.image()I -/
def tb_image (st : tt_St) : Int32 × tt_St := (if (tt_I st 3 1) = 0 then ((-10103), st) else ((tt_I (tt_pI (se_become st 4 3) 0 3 1) 3 1), tt_pI (se_become st 4 3) 0 3 1))
set_option maxHeartbeats 4000000 in
set_option maxRecDepth 20000 in
theorem c_tb_image (G : tt_G) (st : tt_St)  (hI : tb_ok st) : tt_C y_tb_image prog_1_method_28_code 1 (some .int) 4 91 G [.ref (tt_ad G 0)] st (some (.int (tb_image st).1)) (tb_image st).2 := by
  refine tt_enter_si (T := (tb_image st)) (by decide +kernel) (Nat.le_of_ble_eq_true rfl) (fun κ hC hR => ?_)
  rw [tb_image]
  refine r_aload_n 0 hC d_tb_image_0 rfl ?_
  refine r_getR (r := 3) hC d_tb_image_1 fl_tb_19 rfl rfl rfl ?_
  refine r_getI hC d_tb_image_4 fl_tb_63 rfl rfl ?_
  refine r_if_ne (tgt := 14) hC d_tb_image_7 (by decide) (fun c_7 => ?_) (fun c_7 => ?_)
  ·
    refine r_aload_n 0 hC d_tb_image_14 rfl ?_
    refine r_getR (r := 4) hC d_tb_image_15 fl_tb_23 rfl rfl rfl ?_
    refine r_aload_n 0 hC d_tb_image_18 rfl ?_
    refine r_getR (r := 3) hC d_tb_image_19 fl_tb_19 rfl rfl rfl ?_
    refine r_callV (o := 4) (rest := []) (stk1 := []) hC d_tb_image_22 (c_se_become G st 4 3 rfl hI rfl (by decide)) mw_se_become mi_se_become mz_se_become ml_tb_161 rfl rfl rfl rfl rfl (Nat.le_of_ble_eq_true rfl) rfl ?_
    refine r_aload_n 0 hC d_tb_image_25 rfl ?_
    refine r_iconst (v := 1) hC d_tb_image_26 (by decide) ?_
    refine r_putI hC d_tb_image_27 fl_tb_56 fp_4_3 rfl rfl rfl rfl ?_
    refine r_aload_n 0 hC d_tb_image_30 rfl ?_
    refine r_getR (r := 3) hC d_tb_image_31 fl_tb_19 rfl rfl rfl ?_
    refine r_getI hC d_tb_image_34 fl_tb_63 rfl rfl ?_
    exact r_iret_si hC hR d_tb_image_37 rfl
  ·
    refine r_sipush (v := (-10103)) hC d_tb_image_10 (by decide) ?_
    exact r_iret_si hC hR d_tb_image_13 rfl
/-! TideTable.restore()I -/
def tb_restore (st : tt_St) : Int32 × tt_St := (if (tt_I st 0 3) = 0 then ((-10103), st) else ((tt_I (se_become st 3 4) 3 1), (se_become st 3 4)))
set_option maxHeartbeats 4000000 in
set_option maxRecDepth 20000 in
theorem c_tb_restore (G : tt_G) (st : tt_St)  (hI : tb_ok st) : tt_C y_tb_restore prog_1_method_29_code 1 (some .int) 4 91 G [.ref (tt_ad G 0)] st (some (.int (tb_restore st).1)) (tb_restore st).2 := by
  refine tt_enter_si (T := (tb_restore st)) (by decide +kernel) (Nat.le_of_ble_eq_true rfl) (fun κ hC hR => ?_)
  rw [tb_restore]
  refine r_aload_n 0 hC d_tb_restore_0 rfl ?_
  refine r_getI hC d_tb_restore_1 fl_tb_56 rfl rfl ?_
  refine r_if_ne (tgt := 11) hC d_tb_restore_4 (by decide) (fun c_4 => ?_) (fun c_4 => ?_)
  ·
    refine r_aload_n 0 hC d_tb_restore_11 rfl ?_
    refine r_getR (r := 3) hC d_tb_restore_12 fl_tb_19 rfl rfl rfl ?_
    refine r_aload_n 0 hC d_tb_restore_15 rfl ?_
    refine r_getR (r := 4) hC d_tb_restore_16 fl_tb_23 rfl rfl rfl ?_
    refine r_callV (o := 3) (rest := []) (stk1 := []) hC d_tb_restore_19 (c_se_become G st 3 4 rfl hI rfl (by decide)) mw_se_become mi_se_become mz_se_become ml_tb_161 rfl rfl rfl rfl rfl (Nat.le_of_ble_eq_true rfl) rfl ?_
    refine r_aload_n 0 hC d_tb_restore_22 rfl ?_
    refine r_getR (r := 3) hC d_tb_restore_23 fl_tb_19 rfl rfl rfl ?_
    refine r_getI hC d_tb_restore_26 fl_tb_63 rfl rfl ?_
    exact r_iret_si hC hR d_tb_restore_29 rfl
  ·
    refine r_sipush (v := (-10103)) hC d_tb_restore_7 (by decide) ?_
    exact r_iret_si hC hR d_tb_restore_10 rfl
/-! TideTable$Page.isWhole()Z -/
def pg_isWhole_k4  (y0 : Int32) (st : tt_St) : Int32 × tt_St := (if y0 = (tt_I st 1 1) then (if (pg_canEndAhead st (tt_I st 1 1)) = 0 then (0, st) else (1, st)) else (0, st))
set_option maxHeartbeats 4000000 in
set_option maxRecDepth 20000 in
theorem l_pg_isWhole_4 {G : tt_G} {κ : tt_X (Int32 × tt_St)} (hC : tt_Cx G κ prog_2_method_3_code "TideTable$Page" 1 7 160)  (hR : tt_Rt G κ (some .boolean) (fun r => (some (.int r.1), r.2)))  (y0 : Int32) (st : tt_St) (hI : tb_ok st) (hs : 0 ≤ (tt_I st 1 2).toInt ∧ (tt_I st 1 2).toInt ≤ 96) : tt_V G κ (pg_isWhole_k4 y0 st) st 4 [(0, .ref (tt_ad G 1))] [.int y0] := by
  rw [pg_isWhole_k4]
  refine r_aload_n 0 hC d_pg_isWhole_4 rfl ?_
  refine r_getI hC d_pg_isWhole_5 fl_pg_22 rfl rfl ?_
  refine r_icmp_ne (tgt := 26) hC d_pg_isWhole_8 (by decide) (fun c_8 => ?_) (fun c_8 => ?_)
  ·
    refine r_iconst (v := 0) hC d_pg_isWhole_26 (by decide) ?_
    exact r_iret_si hC hR d_pg_isWhole_27 rfl
  ·
    refine r_aload_n 0 hC d_pg_isWhole_11 rfl ?_
    refine r_aload_n 0 hC d_pg_isWhole_12 rfl ?_
    refine r_getI hC d_pg_isWhole_13 fl_pg_22 rfl rfl ?_
    refine r_callV (o := 1) (rest := []) (stk1 := [.int (pg_canEndAhead st (tt_I st 1 1))]) hC d_pg_isWhole_16 (c_pg_canEndAhead G st (tt_I st 1 1) hI.2.2 hs) mw_pg_canEndAhead mi_pg_canEndAhead mz_pg_canEndAhead ml_pg_25 rfl rfl rfl rfl rfl (Nat.le_of_ble_eq_true rfl) rfl ?_
    refine r_if_eq (tgt := 26) hC d_pg_isWhole_19 (by decide) (fun c_19 => ?_) (fun c_19 => ?_)
    ·
      refine r_iconst (v := 0) hC d_pg_isWhole_26 (by decide) ?_
      exact r_iret_si hC hR d_pg_isWhole_27 rfl
    ·
      refine r_iconst (v := 1) hC d_pg_isWhole_22 (by decide) ?_
      refine r_goto (tgt := 27) hC d_pg_isWhole_23 (by decide) ?_
      exact r_iret_si hC hR d_pg_isWhole_27 rfl
def pg_isWhole (st : tt_St) : Int32 × tt_St := (pg_isWhole_k4 ((pg_firstWrong st).1) ((pg_firstWrong st).2))
set_option maxHeartbeats 4000000 in
set_option maxRecDepth 20000 in
theorem c_pg_isWhole (G : tt_G) (st : tt_St)  (hI : tb_ok st) : tt_C y_pg_isWhole prog_2_method_3_code 1 (some .boolean) 7 160 G [.ref (tt_ad G 1)] st (some (.int (pg_isWhole st).1)) (pg_isWhole st).2 := by
  refine tt_enter_si (T := (pg_isWhole st)) (by decide +kernel) (Nat.le_of_ble_eq_true rfl) (fun κ hC hR => ?_)
  rw [pg_isWhole]
  refine r_aload_n 0 hC d_pg_isWhole_0 rfl ?_
  refine r_callV (o := 1) (rest := []) (stk1 := [.int (pg_firstWrong st).1]) hC d_pg_isWhole_1 (c_pg_firstWrong G st hI) mw_pg_firstWrong mi_pg_firstWrong mz_pg_firstWrong ml_pg_32 rfl rfl rfl rfl rfl (Nat.le_of_ble_eq_true rfl) rfl ?_
  exact tt_cast [0] rfl rfl (l_pg_isWhole_4 hC  hR  ((pg_firstWrong st).1) ((pg_firstWrong st).2) (pg_fw hI).1 (pg_fw hI).2)
/-! TideTable.fault()I -/
def tb_fault (st : tt_St) : Int32 × tt_St := ((pg_firstWrong st).1, (pg_firstWrong st).2)
set_option maxHeartbeats 4000000 in
set_option maxRecDepth 20000 in
theorem c_tb_fault (G : tt_G) (st : tt_St)  (hI : tb_ok st) : tt_C y_tb_fault prog_1_method_4_code 1 (some .int) 7 160 G [.ref (tt_ad G 0)] st (some (.int (tb_fault st).1)) (tb_fault st).2 := by
  refine tt_enter_si (T := (tb_fault st)) (by decide +kernel) (Nat.le_of_ble_eq_true rfl) (fun κ hC hR => ?_)
  rw [tb_fault]
  refine r_aload_n 0 hC d_tb_fault_0 rfl ?_
  refine r_getR (r := 1) hC d_tb_fault_1 fl_tb_12 rfl rfl rfl ?_
  refine r_callV (o := 1) (rest := []) (stk1 := [.int (pg_firstWrong st).1]) hC d_tb_fault_4 (c_pg_firstWrong G st hI) mw_pg_firstWrong mi_pg_firstWrong mz_pg_firstWrong ml_tb_44 rfl rfl rfl rfl rfl (Nat.le_of_ble_eq_true rfl) rfl ?_
  exact r_iret_si hC hR d_tb_fault_7 rfl
/-! TideTable$Page.readPort(ILTideTable$Port;)I -/
def pg_readPort_l71 (a1 : Int32) (a2 : Nat) : Nat → Int32 → tt_St → Int32 × tt_St
  | 0, x4, st => (x4, st)
  | n + 1, x4, st => (if (tt_I st 1 1) ≤ x4 then (x4, st) else (if (tt_A st 2 (Int32.toNatClampNeg x4)) = 44 then (x4, st) else (pg_readPort_l71 a1 a2 n (x4 + 6) (po_putWave st a2 (pg_numberAt st x4) (pg_numberAt st (x4 + 2)) (pg_numberAt st (x4 + 4))))))
set_option maxHeartbeats 4000000 in
set_option maxRecDepth 20000 in
theorem l_pg_readPort_71 {α : Type} {G : tt_G} {κ : tt_X α} {T : α} (hC : tt_Cx G κ prog_2_method_8_code "TideTable$Page" 5 5 111) (a1 : Int32) (a2 : Nat) (hp : vp_in a1 96) (h2 : tt_ci a2 = 1) : ∀ (n : Nat) (x4 : Int32) (st : tt_St), tb_ok st → 0 ≤ x4.toInt ∧ x4.toInt ≤ 101 ∧ 102 ≤ x4.toInt + 6 * (n : Int) → tt_V G κ T ((pg_readPort_l71 a1 a2 n x4 st).2) 124 [(4, .int ((pg_readPort_l71 a1 a2 n x4 st).1))] [] → tt_V G κ T st 71 [(0, .ref (tt_ad G 1)), (2, .ref (tt_ad G a2)), (4, .int x4)] [] := by
  intro n
  induction n with
  | zero =>
    intro x4 st hI hx k
    exact absurd hx (by omega)
  | succ n ih =>
    intro x4 st hI hx k
    refine r_iload 2 hC d_pg_readPort_71 rfl ?_
    refine r_aload_n 0 hC d_pg_readPort_73 rfl ?_
    refine r_getI hC d_pg_readPort_74 fl_pg_22 rfl rfl ?_
    refine j_icmp_ge (tgt := 124) hC d_pg_readPort_77 (by decide) (fun c_77 => ?_) (fun c_77 => ?_)
    ·
      exact tt_cast (lv' := [(4, .int x4)]) [2] rfl rfl (by simpa only [pg_readPort_l71, if_pos c_77] using k)
    ·
      refine r_aload_n 0 hC d_pg_readPort_80 rfl ?_
      refine r_getR (r := 2) hC d_pg_readPort_81 fl_pg_9 rfl rfl rfl ?_
      refine r_iload 2 hC d_pg_readPort_84 rfl ?_
      refine r_iald (n := 96) hC d_pg_readPort_86 rfl (by decide) rfl rfl (pg_rp_i hI hx.1 c_77) ?_
      refine r_bipush (v := 44) hC d_pg_readPort_87 (by decide) ?_
      refine j_icmp_eq (tgt := 124) hC d_pg_readPort_89 (by decide) (fun c_89 => ?_) (fun c_89 => ?_)
      ·
        exact tt_cast (lv' := [(4, .int x4)]) [2] rfl rfl (by simpa only [pg_readPort_l71, if_neg c_77, if_pos c_89] using k)
      ·
        refine r_aload_n 1 hC d_pg_readPort_92 rfl ?_
        refine r_aload_n 0 hC d_pg_readPort_93 rfl ?_
        refine r_iload 2 hC d_pg_readPort_94 rfl ?_
        refine r_callV (o := 1) (rest := [.ref (tt_ad G a2)]) (stk1 := [.int (pg_numberAt st x4), .ref (tt_ad G a2)]) hC d_pg_readPort_96 (c_pg_numberAt G st x4 hI (by omega)) mw_pg_numberAt mi_pg_numberAt mz_pg_numberAt ml_pg_65 rfl rfl rfl rfl rfl (Nat.le_of_ble_eq_true rfl) rfl ?_
        refine r_aload_n 0 hC d_pg_readPort_99 rfl ?_
        refine r_iload 2 hC d_pg_readPort_100 rfl ?_
        refine r_iconst (v := 2) hC d_pg_readPort_102 (by decide) ?_
        refine r_iadd hC d_pg_readPort_103 ?_
        refine r_callV (o := 1) (rest := [.int (pg_numberAt st x4), .ref (tt_ad G a2)]) (stk1 := [.int (pg_numberAt st (x4 + 2)), .int (pg_numberAt st x4), .ref (tt_ad G a2)]) hC d_pg_readPort_104 (c_pg_numberAt G st (x4 + 2) hI (pg_rp_a rfl (by omega) (by decide))) mw_pg_numberAt mi_pg_numberAt mz_pg_numberAt ml_pg_65 rfl rfl rfl rfl rfl (Nat.le_of_ble_eq_true rfl) rfl ?_
        refine r_aload_n 0 hC d_pg_readPort_107 rfl ?_
        refine r_iload 2 hC d_pg_readPort_108 rfl ?_
        refine r_iconst (v := 4) hC d_pg_readPort_110 (by decide) ?_
        refine r_iadd hC d_pg_readPort_111 ?_
        refine r_callV (o := 1) (rest := [.int (pg_numberAt st (x4 + 2)), .int (pg_numberAt st x4), .ref (tt_ad G a2)]) (stk1 := [.int (pg_numberAt st (x4 + 4)), .int (pg_numberAt st (x4 + 2)), .int (pg_numberAt st x4), .ref (tt_ad G a2)]) hC d_pg_readPort_112 (c_pg_numberAt G st (x4 + 4) hI (pg_rp_a rfl (by omega) (by decide))) mw_pg_numberAt mi_pg_numberAt mz_pg_numberAt ml_pg_65 rfl rfl rfl rfl rfl (Nat.le_of_ble_eq_true rfl) rfl ?_
        refine r_callV (o := a2) (rest := []) (stk1 := []) hC d_pg_readPort_115 (c_po_putWave G st a2 (pg_numberAt st x4) (pg_numberAt st (x4 + 2)) (pg_numberAt st (x4 + 4)) h2 hI) mw_po_putWave mi_po_putWave mz_po_putWave ml_pg_74 h2 rfl rfl rfl rfl (Nat.le_of_ble_eq_true rfl) rfl ?_
        refine r_iinc 2 (x4 + 6) [(4, .int (x4 + 6)), (0, .ref (tt_ad G 1)), (2, .ref (tt_ad G a2))] hC d_pg_readPort_118 rfl rfl (by decide) rfl ?_
        refine r_goto (tgt := 71) hC d_pg_readPort_121 (by decide) ?_
        exact tt_cast [1, 2, 0] rfl rfl (ih (x4 + 6) (po_putWave st a2 (pg_numberAt st x4) (pg_numberAt st (x4 + 2)) (pg_numberAt st (x4 + 4))) (po_putWave_ok hI h2) (pg_rp_s hI hx c_77) (by simpa only [pg_readPort_l71, if_neg c_77, if_neg c_89] using k))
def pg_readPort (st : tt_St) (a1 : Int32) (a2 : Nat) : Int32 × tt_St := (if (pg_kindOf (tt_A st 2 (Int32.toNatClampNeg a1))) = 3 then ((a1 + 7), (po_begin st a2 (pg_kindOf (tt_A st 2 (Int32.toNatClampNeg a1))) (pg_numberAt st (a1 + 1)) (pg_numberAt st (a1 + 3)) (pg_numberAt st (a1 + 5)))) else (((pg_readPort_l71 a1 a2 17 (a1 + 5) (po_begin st a2 (pg_kindOf (tt_A st 2 (Int32.toNatClampNeg a1))) (pg_numberAt st (a1 + 1)) (pg_numberAt st (a1 + 3)) 50)).1), ((pg_readPort_l71 a1 a2 17 (a1 + 5) (po_begin st a2 (pg_kindOf (tt_A st 2 (Int32.toNatClampNeg a1))) (pg_numberAt st (a1 + 1)) (pg_numberAt st (a1 + 3)) 50)).2)))
set_option maxHeartbeats 4000000 in
set_option maxRecDepth 20000 in
theorem c_pg_readPort (G : tt_G) (st : tt_St) (a1 : Int32) (a2 : Nat) (hI : tb_ok st) (hp : vp_in a1 96) (h2 : tt_ci a2 = 1) : tt_C y_pg_readPort prog_2_method_8_code 5 (some .int) 5 111 G [.ref (tt_ad G 1), .int a1, .ref (tt_ad G a2)] st (some (.int (pg_readPort st a1 a2).1)) (pg_readPort st a1 a2).2 := by
  refine tt_enter_si (T := (pg_readPort st a1 a2)) (by decide +kernel) (Nat.le_of_ble_eq_true rfl) (fun κ hC hR => ?_)
  rw [pg_readPort]
  refine r_aload_n 0 hC d_pg_readPort_0 rfl ?_
  refine r_getR (r := 2) hC d_pg_readPort_1 fl_pg_9 rfl rfl rfl ?_
  refine r_iload_n 1 hC d_pg_readPort_4 rfl ?_
  refine r_iald (n := 96) hC d_pg_readPort_5 rfl (by decide) rfl rfl hp ?_
  refine r_callS (rest := []) (stk1 := [.int (pg_kindOf (tt_A st 2 (Int32.toNatClampNeg a1)))]) hC d_pg_readPort_6 (c_pg_kindOf G st (tt_A st 2 (Int32.toNatClampNeg a1))) mw_pg_kindOf ms_pg_kindOf ml_pg_36 rfl rfl rfl (Nat.le_of_ble_eq_true rfl) rfl ?_
  refine r_istore_n [(3, .int (pg_kindOf (tt_A st 2 (Int32.toNatClampNeg a1)))), (0, .ref (tt_ad G 1)), (1, .int a1), (2, .ref (tt_ad G a2))] hC d_pg_readPort_9 rfl (by decide) rfl ?_
  refine r_iload_n 2 hC d_pg_readPort_10 rfl ?_
  refine r_iconst (v := 5) hC d_pg_readPort_11 (by decide) ?_
  refine r_iadd hC d_pg_readPort_12 ?_
  refine r_istore [(4, .int (a1 + 5)), (3, .int (pg_kindOf (tt_A st 2 (Int32.toNatClampNeg a1)))), (0, .ref (tt_ad G 1)), (1, .int a1), (2, .ref (tt_ad G a2))] hC d_pg_readPort_13 (by decide) rfl ?_
  refine r_iload_n 1 hC d_pg_readPort_15 rfl ?_
  refine r_iconst (v := 3) hC d_pg_readPort_16 (by decide) ?_
  refine r_icmp_ne (tgt := 50) hC d_pg_readPort_17 (by decide) (fun c_17 => ?_) (fun c_17 => ?_)
  ·
    refine r_aload_n 4 hC d_pg_readPort_50 rfl ?_
    refine r_iload_n 1 hC d_pg_readPort_51 rfl ?_
    refine r_aload_n 2 hC d_pg_readPort_52 rfl ?_
    refine r_iload_n 3 hC d_pg_readPort_53 rfl ?_
    refine r_iconst (v := 1) hC d_pg_readPort_54 (by decide) ?_
    refine r_iadd hC d_pg_readPort_55 ?_
    refine r_callV (o := 1) (rest := [.int (pg_kindOf (tt_A st 2 (Int32.toNatClampNeg a1))), .ref (tt_ad G a2)]) (stk1 := [.int (pg_numberAt st (a1 + 1)), .int (pg_kindOf (tt_A st 2 (Int32.toNatClampNeg a1))), .ref (tt_ad G a2)]) hC d_pg_readPort_56 (c_pg_numberAt G st (a1 + 1) hI (pg_rp_a rfl (by have h9 := tt_in_lt hp; omega) (by decide))) mw_pg_numberAt mi_pg_numberAt mz_pg_numberAt ml_pg_65 rfl rfl rfl rfl rfl (Nat.le_of_ble_eq_true rfl) rfl ?_
    refine r_aload_n 2 hC d_pg_readPort_59 rfl ?_
    refine r_iload_n 3 hC d_pg_readPort_60 rfl ?_
    refine r_iconst (v := 3) hC d_pg_readPort_61 (by decide) ?_
    refine r_iadd hC d_pg_readPort_62 ?_
    refine r_callV (o := 1) (rest := [.int (pg_numberAt st (a1 + 1)), .int (pg_kindOf (tt_A st 2 (Int32.toNatClampNeg a1))), .ref (tt_ad G a2)]) (stk1 := [.int (pg_numberAt st (a1 + 3)), .int (pg_numberAt st (a1 + 1)), .int (pg_kindOf (tt_A st 2 (Int32.toNatClampNeg a1))), .ref (tt_ad G a2)]) hC d_pg_readPort_63 (c_pg_numberAt G st (a1 + 3) hI (pg_rp_a rfl (by have h9 := tt_in_lt hp; omega) (by decide))) mw_pg_numberAt mi_pg_numberAt mz_pg_numberAt ml_pg_65 rfl rfl rfl rfl rfl (Nat.le_of_ble_eq_true rfl) rfl ?_
    refine r_bipush (v := 50) hC d_pg_readPort_66 (by decide) ?_
    refine r_callV (o := a2) (rest := []) (stk1 := []) hC d_pg_readPort_68 (c_po_begin G st a2 (pg_kindOf (tt_A st 2 (Int32.toNatClampNeg a1))) (pg_numberAt st (a1 + 1)) (pg_numberAt st (a1 + 3)) 50 h2) mw_po_begin mi_po_begin mz_po_begin ml_pg_68 h2 rfl rfl rfl rfl (Nat.le_of_ble_eq_true rfl) rfl ?_
    refine tt_cast [2, 4, 0] rfl rfl (l_pg_readPort_71 hC a1 a2 hp h2 17  (a1 + 5) (po_begin st a2 (pg_kindOf (tt_A st 2 (Int32.toNatClampNeg a1))) (pg_numberAt st (a1 + 1)) (pg_numberAt st (a1 + 3)) 50) (po_begin_ok hI h2) (by have h9 := tt_in_lt hp; have e := tt_addn (a := a1) (b := 5) (n := 5) rfl (by omega) (by omega); omega) ?_)
    refine r_iload 0 hC d_pg_readPort_124 rfl ?_
    exact r_iret_si hC hR d_pg_readPort_126 rfl
  ·
    refine r_aload_n 4 hC d_pg_readPort_20 rfl ?_
    refine r_iload_n 1 hC d_pg_readPort_21 rfl ?_
    refine r_aload_n 2 hC d_pg_readPort_22 rfl ?_
    refine r_iload_n 3 hC d_pg_readPort_23 rfl ?_
    refine r_iconst (v := 1) hC d_pg_readPort_24 (by decide) ?_
    refine r_iadd hC d_pg_readPort_25 ?_
    refine r_callV (o := 1) (rest := [.int (pg_kindOf (tt_A st 2 (Int32.toNatClampNeg a1))), .ref (tt_ad G a2)]) (stk1 := [.int (pg_numberAt st (a1 + 1)), .int (pg_kindOf (tt_A st 2 (Int32.toNatClampNeg a1))), .ref (tt_ad G a2)]) hC d_pg_readPort_26 (c_pg_numberAt G st (a1 + 1) hI (pg_rp_a rfl (by have h9 := tt_in_lt hp; omega) (by decide))) mw_pg_numberAt mi_pg_numberAt mz_pg_numberAt ml_pg_65 rfl rfl rfl rfl rfl (Nat.le_of_ble_eq_true rfl) rfl ?_
    refine r_aload_n 2 hC d_pg_readPort_29 rfl ?_
    refine r_iload_n 3 hC d_pg_readPort_30 rfl ?_
    refine r_iconst (v := 3) hC d_pg_readPort_31 (by decide) ?_
    refine r_iadd hC d_pg_readPort_32 ?_
    refine r_callV (o := 1) (rest := [.int (pg_numberAt st (a1 + 1)), .int (pg_kindOf (tt_A st 2 (Int32.toNatClampNeg a1))), .ref (tt_ad G a2)]) (stk1 := [.int (pg_numberAt st (a1 + 3)), .int (pg_numberAt st (a1 + 1)), .int (pg_kindOf (tt_A st 2 (Int32.toNatClampNeg a1))), .ref (tt_ad G a2)]) hC d_pg_readPort_33 (c_pg_numberAt G st (a1 + 3) hI (pg_rp_a rfl (by have h9 := tt_in_lt hp; omega) (by decide))) mw_pg_numberAt mi_pg_numberAt mz_pg_numberAt ml_pg_65 rfl rfl rfl rfl rfl (Nat.le_of_ble_eq_true rfl) rfl ?_
    refine r_aload_n 2 hC d_pg_readPort_36 rfl ?_
    refine r_iload 0 hC d_pg_readPort_37 rfl ?_
    refine r_callV (o := 1) (rest := [.int (pg_numberAt st (a1 + 3)), .int (pg_numberAt st (a1 + 1)), .int (pg_kindOf (tt_A st 2 (Int32.toNatClampNeg a1))), .ref (tt_ad G a2)]) (stk1 := [.int (pg_numberAt st (a1 + 5)), .int (pg_numberAt st (a1 + 3)), .int (pg_numberAt st (a1 + 1)), .int (pg_kindOf (tt_A st 2 (Int32.toNatClampNeg a1))), .ref (tt_ad G a2)]) hC d_pg_readPort_39 (c_pg_numberAt G st (a1 + 5) hI (pg_rp_a rfl (by have h9 := tt_in_lt hp; omega) (by decide))) mw_pg_numberAt mi_pg_numberAt mz_pg_numberAt ml_pg_65 rfl rfl rfl rfl rfl (Nat.le_of_ble_eq_true rfl) rfl ?_
    refine r_callV (o := a2) (rest := []) (stk1 := []) hC d_pg_readPort_42 (c_po_begin G st a2 (pg_kindOf (tt_A st 2 (Int32.toNatClampNeg a1))) (pg_numberAt st (a1 + 1)) (pg_numberAt st (a1 + 3)) (pg_numberAt st (a1 + 5)) h2) mw_po_begin mi_po_begin mz_po_begin ml_pg_68 h2 rfl rfl rfl rfl (Nat.le_of_ble_eq_true rfl) rfl ?_
    refine r_iload_n 3 hC d_pg_readPort_45 rfl ?_
    refine r_bipush (v := 7) hC d_pg_readPort_46 (by decide) ?_
    refine r_iadd hC d_pg_readPort_48 ?_
    exact r_iret_si hC hR d_pg_readPort_49 rfl

/-! TideTableModel.read()I -/
def mo_read_l21  : Nat → Int32 → tt_St → Int32 × tt_St
  | 0, x1, st => (x1, st)
  | n + 1, x1, st => (if (tt_I st 49 16) = 0 then (if 4 ≤ (tt_I st 49 17) then (x1, st) else (if (mo_at st x1) = 44 then (mo_read_l21 n ((mo_readPort st (x1 + 1)).1) ((mo_readPort st (x1 + 1)).2)) else (x1, st))) else (x1, st))
set_option maxHeartbeats 4000000 in
set_option maxRecDepth 20000 in
theorem l_mo_read_21 {α : Type} {G : tt_G} {κ : tt_X α} {T : α} (hC : tt_Cx G κ prog_7_method_16_code "TideTableModel" 2 5 113)   : ∀ (n : Nat) (x1 : Int32) (st : tt_St), mo_pl st → 0 ≤ x1.toInt ∧ x1.toInt + 40 * (n : Int) ≤ 400 → mo_rdM st n → tt_V G κ T ((mo_read_l21 n x1 st).2) 57 [(0, .ref (tt_ad G 49)), (1, .int ((mo_read_l21 n x1 st).1))] [] → tt_V G κ T st 21 [(0, .ref (tt_ad G 49)), (1, .int x1)] [] := by
  intro n
  induction n with
  | zero =>
    intro x1 st hl hk hm k
    exact absurd hm.1 (by omega)
  | succ n ih =>
    intro x1 st hl hk hm k
    refine r_aload_n 0 hC d_mo_read_21 rfl ?_
    refine r_getI hC d_mo_read_22 fl_mo_108 rfl rfl ?_
    refine j_if_ne (tgt := 57) hC d_mo_read_25 (by decide) (fun c_25 => ?_) (fun c_25 => ?_)
    ·
      exact tt_cast (lv' := [(0, .ref (tt_ad G 49)), (1, .int x1)]) [0, 1] rfl rfl (by simpa only [mo_read_l21, if_neg c_25] using k)
    ·
      refine r_aload_n 0 hC d_mo_read_28 rfl ?_
      refine r_getI hC d_mo_read_29 fl_mo_115 rfl rfl ?_
      refine r_iconst (v := 4) hC d_mo_read_32 (by decide) ?_
      refine j_icmp_ge (tgt := 57) hC d_mo_read_33 (by decide) (fun c_33 => ?_) (fun c_33 => ?_)
      ·
        exact tt_cast (lv' := [(0, .ref (tt_ad G 49)), (1, .int x1)]) [0, 1] rfl rfl (by simpa only [mo_read_l21, if_pos c_25, if_pos c_33] using k)
      ·
        refine r_aload_n 0 hC d_mo_read_36 rfl ?_
        refine r_iload_n 1 hC d_mo_read_37 rfl ?_
        refine r_callV (o := 49) (rest := []) (stk1 := [.int (mo_at st x1)]) hC d_mo_read_38 (c_mo_at G st x1 hl hk.1) mw_mo_at mi_mo_at mz_mo_at ml_mo_101 rfl rfl rfl rfl rfl (Nat.le_of_ble_eq_true rfl) rfl ?_
        refine r_bipush (v := 44) hC d_mo_read_41 (by decide) ?_
        refine j_icmp_ne (tgt := 57) hC d_mo_read_43 (by decide) (fun c_43 => ?_) (fun c_43 => ?_)
        ·
          exact tt_cast (lv' := [(0, .ref (tt_ad G 49)), (1, .int x1)]) [0, 1] rfl rfl (by simpa only [mo_read_l21, if_pos c_25, if_neg c_33, if_neg c_43] using k)
        ·
          refine r_aload_n 0 hC d_mo_read_46 rfl ?_
          refine r_iload_n 1 hC d_mo_read_47 rfl ?_
          refine r_iconst (v := 1) hC d_mo_read_48 (by decide) ?_
          refine r_iadd hC d_mo_read_49 ?_
          refine r_callV (o := 49) (rest := []) (stk1 := [.int (mo_readPort st (x1 + 1)).1]) hC d_mo_read_50 (c_mo_readPort G st (x1 + 1) hl (by have e := tt_addn (a := x1) (b := 1) (n := 1) rfl (by omega) (by omega); omega) (mo_rd_in hm c_33)) mw_mo_readPort mi_mo_readPort mz_mo_readPort ml_mo_131 rfl rfl rfl rfl rfl (Nat.le_of_ble_eq_true rfl) rfl ?_
          refine r_istore_n [(1, .int (mo_readPort st (x1 + 1)).1), (0, .ref (tt_ad G 49))] hC d_mo_read_53 rfl (by decide) rfl ?_
          refine r_goto (tgt := 21) hC d_mo_read_54 (by decide) ?_
          exact tt_cast [1, 0] rfl rfl (ih ((mo_readPort st (x1 + 1)).1) ((mo_readPort st (x1 + 1)).2) (mo_rp_pl (by have e := tt_addn (a := x1) (b := 1) (n := 1) rfl (by omega) (by omega); omega) hl) (mo_rd_k hk) (mo_rd_step hm hk c_25 c_33) (by simpa only [mo_read_l21, if_pos c_25, if_neg c_33, if_pos c_43] using k))
def mo_read (st : tt_St) : Int32 × tt_St := (if (tt_I ((mo_read_l21 5 ((mo_readPort (tt_pI (tt_pI (tt_pI st 49 15 0) 49 16 0) 49 17 0) 0).1) ((mo_readPort (tt_pI (tt_pI (tt_pI st 49 15 0) 49 16 0) 49 17 0) 0).2)).2) 49 16) = 0 then (if ((mo_read_l21 5 ((mo_readPort (tt_pI (tt_pI (tt_pI st 49 15 0) 49 16 0) 49 17 0) 0).1) ((mo_readPort (tt_pI (tt_pI (tt_pI st 49 15 0) 49 16 0) 49 17 0) 0).2)).1) = (tt_I ((mo_read_l21 5 ((mo_readPort (tt_pI (tt_pI (tt_pI st 49 15 0) 49 16 0) 49 17 0) 0).1) ((mo_readPort (tt_pI (tt_pI (tt_pI st 49 15 0) 49 16 0) 49 17 0) 0).2)).2) 49 13) then (((mo_read_l21 5 ((mo_readPort (tt_pI (tt_pI (tt_pI st 49 15 0) 49 16 0) 49 17 0) 0).1) ((mo_readPort (tt_pI (tt_pI (tt_pI st 49 15 0) 49 16 0) 49 17 0) 0).2)).1), tt_pI ((mo_read_l21 5 ((mo_readPort (tt_pI (tt_pI (tt_pI st 49 15 0) 49 16 0) 49 17 0) 0).1) ((mo_readPort (tt_pI (tt_pI (tt_pI st 49 15 0) 49 16 0) 49 17 0) 0).2)).2) 49 15 1) else (((mo_read_l21 5 ((mo_readPort (tt_pI (tt_pI (tt_pI st 49 15 0) 49 16 0) 49 17 0) 0).1) ((mo_readPort (tt_pI (tt_pI (tt_pI st 49 15 0) 49 16 0) 49 17 0) 0).2)).1), tt_pI ((mo_read_l21 5 ((mo_readPort (tt_pI (tt_pI (tt_pI st 49 15 0) 49 16 0) 49 17 0) 0).1) ((mo_readPort (tt_pI (tt_pI (tt_pI st 49 15 0) 49 16 0) 49 17 0) 0).2)).2) 49 15 0)) else (((mo_read_l21 5 ((mo_readPort (tt_pI (tt_pI (tt_pI st 49 15 0) 49 16 0) 49 17 0) 0).1) ((mo_readPort (tt_pI (tt_pI (tt_pI st 49 15 0) 49 16 0) 49 17 0) 0).2)).1), tt_pI ((mo_read_l21 5 ((mo_readPort (tt_pI (tt_pI (tt_pI st 49 15 0) 49 16 0) 49 17 0) 0).1) ((mo_readPort (tt_pI (tt_pI (tt_pI st 49 15 0) 49 16 0) 49 17 0) 0).2)).2) 49 15 0))
set_option maxHeartbeats 4000000 in
set_option maxRecDepth 20000 in
theorem c_mo_read (G : tt_G) (st : tt_St)  (hl : mo_pl st) : tt_C y_mo_read prog_7_method_16_code 2 (some .int) 5 113 G [.ref (tt_ad G 49)] st (some (.int (mo_read st).1)) (mo_read st).2 := by
  refine tt_enter_si (T := (mo_read st)) (by decide +kernel) (Nat.le_of_ble_eq_true rfl) (fun κ hC hR => ?_)
  rw [mo_read]
  refine r_aload_n 0 hC d_mo_read_0 rfl ?_
  refine r_iconst (v := 0) hC d_mo_read_1 (by decide) ?_
  refine r_putI hC d_mo_read_2 fl_mo_128 fp_5_15 rfl rfl rfl rfl ?_
  refine r_aload_n 0 hC d_mo_read_5 rfl ?_
  refine r_iconst (v := 0) hC d_mo_read_6 (by decide) ?_
  refine r_putI hC d_mo_read_7 fl_mo_108 fp_5_16 rfl rfl rfl rfl ?_
  refine r_aload_n 0 hC d_mo_read_10 rfl ?_
  refine r_iconst (v := 0) hC d_mo_read_11 (by decide) ?_
  refine r_putI hC d_mo_read_12 fl_mo_115 fp_5_17 rfl rfl rfl rfl ?_
  refine r_aload_n 0 hC d_mo_read_15 rfl ?_
  refine r_iconst (v := 0) hC d_mo_read_16 (by decide) ?_
  refine r_callV (o := 49) (rest := []) (stk1 := [.int (mo_readPort (tt_pI (tt_pI (tt_pI st 49 15 0) 49 16 0) 49 17 0) 0).1]) hC d_mo_read_17 (c_mo_readPort G (tt_pI (tt_pI (tt_pI st 49 15 0) 49 16 0) 49 17 0) 0 hl (by decide) (show vp_in 0 4 from by unfold vp_in; decide)) mw_mo_readPort mi_mo_readPort mz_mo_readPort ml_mo_131 rfl rfl rfl rfl rfl (Nat.le_of_ble_eq_true rfl) rfl ?_
  refine r_istore_n [(1, .int (mo_readPort (tt_pI (tt_pI (tt_pI st 49 15 0) 49 16 0) 49 17 0) 0).1), (0, .ref (tt_ad G 49))] hC d_mo_read_20 rfl (by decide) rfl ?_
  refine tt_cast [1, 0] rfl rfl (l_mo_read_21 hC   5  ((mo_readPort (tt_pI (tt_pI (tt_pI st 49 15 0) 49 16 0) 49 17 0) 0).1) ((mo_readPort (tt_pI (tt_pI (tt_pI st 49 15 0) 49 16 0) 49 17 0) 0).2) (mo_rp_pl (by decide) hl) (mo_rd0_k) (mo_rdM_step (n := 5) (by decide) (by decide) (show 0 ≤ (0 : Int32).toInt ∧ (0 : Int32).toInt ≤ 3 from by decide) (show 5 ≤ (0 : Int32).toInt + ((5 + 1 : Nat) : Int) from by decide)) ?_)
  refine r_aload_n 0 hC d_mo_read_57 rfl ?_
  refine r_aload_n 0 hC d_mo_read_58 rfl ?_
  refine r_getI hC d_mo_read_59 fl_mo_108 rfl rfl ?_
  refine r_if_ne (tgt := 77) hC d_mo_read_62 (by decide) (fun c_62 => ?_) (fun c_62 => ?_)
  ·
    refine r_iconst (v := 0) hC d_mo_read_77 (by decide) ?_
    refine r_putI hC d_mo_read_78 fl_mo_128 fp_5_15 rfl rfl rfl rfl ?_
    refine r_iload_n 1 hC d_mo_read_81 rfl ?_
    exact r_iret hC hR d_mo_read_82 rfl rfl
  ·
    refine r_iload_n 1 hC d_mo_read_65 rfl ?_
    refine r_aload_n 0 hC d_mo_read_66 rfl ?_
    refine r_getI hC d_mo_read_67 fl_mo_97 rfl rfl ?_
    refine r_icmp_ne (tgt := 77) hC d_mo_read_70 (by decide) (fun c_70 => ?_) (fun c_70 => ?_)
    ·
      refine r_iconst (v := 0) hC d_mo_read_77 (by decide) ?_
      refine r_putI hC d_mo_read_78 fl_mo_128 fp_5_15 rfl rfl rfl rfl ?_
      refine r_iload_n 1 hC d_mo_read_81 rfl ?_
      exact r_iret hC hR d_mo_read_82 rfl rfl
    ·
      refine r_iconst (v := 1) hC d_mo_read_73 (by decide) ?_
      refine r_goto (tgt := 78) hC d_mo_read_74 (by decide) ?_
      refine r_putI hC d_mo_read_78 fl_mo_128 fp_5_15 rfl rfl rfl rfl ?_
      refine r_iload_n 1 hC d_mo_read_81 rfl ?_
      exact r_iret hC hR d_mo_read_82 rfl rfl
/-! TideTableModel.fault()I -/
def mo_fault (st : tt_St) : Int32 × tt_St := ((mo_read st).1, (mo_read st).2)
set_option maxHeartbeats 4000000 in
set_option maxRecDepth 20000 in
theorem c_mo_fault (G : tt_G) (st : tt_St)  (hl : mo_pl st) : tt_C y_mo_fault prog_7_method_17_code 1 (some .int) 6 134 G [.ref (tt_ad G 49)] st (some (.int (mo_fault st).1)) (mo_fault st).2 := by
  refine tt_enter_si (T := (mo_fault st)) (by decide +kernel) (Nat.le_of_ble_eq_true rfl) (fun κ hC hR => ?_)
  rw [mo_fault]
  refine r_aload_n 0 hC d_mo_fault_0 rfl ?_
  refine r_callV (o := 49) (rest := []) (stk1 := [.int (mo_read st).1]) hC d_mo_fault_1 (c_mo_read G st hl) mw_mo_read mi_mo_read mz_mo_read ml_mo_134 rfl rfl rfl rfl rfl (Nat.le_of_ble_eq_true rfl) rfl ?_
  exact r_iret hC hR d_mo_fault_4 rfl rfl

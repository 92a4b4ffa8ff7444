/-! TideTableModel.isWave(II)Z -/
def mo_isWave (st : tt_St) (a1 : Int32) (a2 : Int32) : Int32 := (if (mo_isPort st a1) = 0 then 0 else (if (mo_within a2 0 ((tt_A st 54 (Int32.toNatClampNeg a1)) - 1)) = 0 then 0 else 1))
set_option maxHeartbeats 4000000 in
set_option maxRecDepth 20000 in
theorem c_mo_isWave (G : tt_G) (st : tt_St) (a1 : Int32) (a2 : Int32) (hI : mo_ok st) : tt_C y_mo_isWave prog_7_method_20_code 3 (some .boolean) 2 43 G [.ref (tt_ad G 49), .int a1, .int a2] st (some (.int (mo_isWave st a1 a2))) st := by
  refine tt_enter (α := Int32) (mk := fun r => (some (.int r), st)) (T := (mo_isWave st a1 a2)) (by decide +kernel) (Nat.le_of_ble_eq_true rfl) (fun κ hC hR => ?_)
  rw [mo_isWave]
  refine r_aload_n 0 hC d_mo_isWave_0 rfl ?_
  refine r_iload_n 1 hC d_mo_isWave_1 rfl ?_
  refine r_callV (o := 49) (rest := []) (stk1 := [.int (mo_isPort st a1)]) hC d_mo_isWave_2 (c_mo_isPort G st a1) mw_mo_isPort mi_mo_isPort mz_mo_isPort ml_mo_147 rfl rfl rfl rfl rfl (Nat.le_of_ble_eq_true rfl) rfl ?_
  refine r_if_eq (tgt := 28) hC d_mo_isWave_5 (by decide) (fun c_5 => ?_) (fun c_5 => ?_)
  ·
    refine r_iconst (v := 0) hC d_mo_isWave_28 (by decide) ?_
    exact r_iret hC hR d_mo_isWave_29 rfl rfl
  ·
    refine r_iload_n 2 hC d_mo_isWave_8 rfl ?_
    refine r_iconst (v := 0) hC d_mo_isWave_9 (by decide) ?_
    refine r_aload_n 0 hC d_mo_isWave_10 rfl ?_
    refine r_getR (r := 54) hC d_mo_isWave_11 fl_mo_22 rfl rfl rfl ?_
    refine r_iload_n 1 hC d_mo_isWave_14 rfl ?_
    refine r_iald (n := 4) hC d_mo_isWave_15 rfl (by decide) rfl rfl (mo_isPort_in hI c_5) ?_
    refine r_iconst (v := 1) hC d_mo_isWave_16 (by decide) ?_
    refine r_isub hC d_mo_isWave_17 ?_
    refine r_callS (rest := []) (stk1 := [.int (mo_within a2 0 ((tt_A st 54 (Int32.toNatClampNeg a1)) - 1))]) hC d_mo_isWave_18 (c_mo_within G st a2 0 ((tt_A st 54 (Int32.toNatClampNeg a1)) - 1)) mw_mo_within ms_mo_within ml_mo_93 rfl rfl rfl (Nat.le_of_ble_eq_true rfl) rfl ?_
    refine r_if_eq (tgt := 28) hC d_mo_isWave_21 (by decide) (fun c_21 => ?_) (fun c_21 => ?_)
    ·
      refine r_iconst (v := 0) hC d_mo_isWave_28 (by decide) ?_
      exact r_iret hC hR d_mo_isWave_29 rfl rfl
    ·
      refine r_iconst (v := 1) hC d_mo_isWave_24 (by decide) ?_
      refine r_goto (tgt := 29) hC d_mo_isWave_25 (by decide) ?_
      exact r_iret hC hR d_mo_isWave_29 rfl rfl

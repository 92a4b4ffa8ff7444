/-! TideTableModel.isNumber(I)Z -/
def mo_isNumber (a1 : Int32) : Int32 := (mo_within a1 0 99)
set_option maxHeartbeats 4000000 in
set_option maxRecDepth 20000 in
theorem c_mo_isNumber (G : tt_G) (st : tt_St) (a1 : Int32)  : tt_C y_mo_isNumber prog_7_method_21_code 1 (some .boolean) 1 22 G [.int a1] st (some (.int (mo_isNumber a1))) st := by
  refine tt_enter (α := Int32) (mk := fun r => (some (.int r), st)) (T := (mo_isNumber a1)) (by decide +kernel) (Nat.le_of_ble_eq_true rfl) (fun κ hC hR => ?_)
  rw [mo_isNumber]
  refine r_iload_n 0 hC d_mo_isNumber_0 rfl ?_
  refine r_iconst (v := 0) hC d_mo_isNumber_1 (by decide) ?_
  refine r_bipush (v := 99) hC d_mo_isNumber_2 (by decide) ?_
  refine r_callS (rest := []) (stk1 := [.int (mo_within a1 0 99)]) hC d_mo_isNumber_4 (c_mo_within G st a1 0 99) mw_mo_within ms_mo_within ml_mo_93 rfl rfl rfl (Nat.le_of_ble_eq_true rfl) rfl ?_
  exact r_iret hC hR d_mo_isNumber_7 (tt_nb (mo_within_b _ _ _)) rfl
/-! TideTableModel.isTick(I)Z -/
def mo_isTick (a1 : Int32) : Int32 := (mo_within a1 0 1439)
set_option maxHeartbeats 4000000 in
set_option maxRecDepth 20000 in
theorem c_mo_isTick (G : tt_G) (st : tt_St) (a1 : Int32)  : tt_C y_mo_isTick prog_7_method_33_code 1 (some .boolean) 1 22 G [.int a1] st (some (.int (mo_isTick a1))) st := by
  refine tt_enter (α := Int32) (mk := fun r => (some (.int r), st)) (T := (mo_isTick a1)) (by decide +kernel) (Nat.le_of_ble_eq_true rfl) (fun κ hC hR => ?_)
  rw [mo_isTick]
  refine r_iload_n 0 hC d_mo_isTick_0 rfl ?_
  refine r_iconst (v := 0) hC d_mo_isTick_1 (by decide) ?_
  refine r_sipush (v := 1439) hC d_mo_isTick_2 (by decide) ?_
  refine r_callS (rest := []) (stk1 := [.int (mo_within a1 0 1439)]) hC d_mo_isTick_5 (c_mo_within G st a1 0 1439) mw_mo_within ms_mo_within ml_mo_93 rfl rfl rfl (Nat.le_of_ble_eq_true rfl) rfl ?_
  exact r_iret hC hR d_mo_isTick_8 (tt_nb (mo_within_b _ _ _)) rfl
/-! TideTableModel.isDay(I)Z -/
def mo_isDay (a1 : Int32) : Int32 := (mo_within a1 0 9)
set_option maxHeartbeats 4000000 in
set_option maxRecDepth 20000 in
theorem c_mo_isDay (G : tt_G) (st : tt_St) (a1 : Int32)  : tt_C y_mo_isDay prog_7_method_38_code 1 (some .boolean) 1 22 G [.int a1] st (some (.int (mo_isDay a1))) st := by
  refine tt_enter (α := Int32) (mk := fun r => (some (.int r), st)) (T := (mo_isDay a1)) (by decide +kernel) (Nat.le_of_ble_eq_true rfl) (fun κ hC hR => ?_)
  rw [mo_isDay]
  refine r_iload_n 0 hC d_mo_isDay_0 rfl ?_
  refine r_iconst (v := 0) hC d_mo_isDay_1 (by decide) ?_
  refine r_bipush (v := 9) hC d_mo_isDay_2 (by decide) ?_
  refine r_callS (rest := []) (stk1 := [.int (mo_within a1 0 9)]) hC d_mo_isDay_4 (c_mo_within G st a1 0 9) mw_mo_within ms_mo_within ml_mo_93 rfl rfl rfl (Nat.le_of_ble_eq_true rfl) rfl ?_
  exact r_iret hC hR d_mo_isDay_7 (tt_nb (mo_within_b _ _ _)) rfl
/-! TideTableModel.isNeed(I)Z -/
def mo_isNeed (a1 : Int32) : Int32 := (mo_within a1 (-2000) 4000)
set_option maxHeartbeats 4000000 in
set_option maxRecDepth 20000 in
theorem c_mo_isNeed (G : tt_G) (st : tt_St) (a1 : Int32)  : tt_C y_mo_isNeed prog_7_method_39_code 1 (some .boolean) 1 22 G [.int a1] st (some (.int (mo_isNeed a1))) st := by
  refine tt_enter (α := Int32) (mk := fun r => (some (.int r), st)) (T := (mo_isNeed a1)) (by decide +kernel) (Nat.le_of_ble_eq_true rfl) (fun κ hC hR => ?_)
  rw [mo_isNeed]
  refine r_iload_n 0 hC d_mo_isNeed_0 rfl ?_
  refine r_sipush (v := (-2000)) hC d_mo_isNeed_1 (by decide) ?_
  refine r_sipush (v := 4000) hC d_mo_isNeed_4 (by decide) ?_
  refine r_callS (rest := []) (stk1 := [.int (mo_within a1 (-2000) 4000)]) hC d_mo_isNeed_7 (c_mo_within G st a1 (-2000) 4000) mw_mo_within ms_mo_within ml_mo_93 rfl rfl rfl (Nat.le_of_ble_eq_true rfl) rfl ?_
  exact r_iret hC hR d_mo_isNeed_10 (tt_nb (mo_within_b _ _ _)) rfl
/-! TideTableModel.isPace(I)Z -/
def mo_isPace (a1 : Int32) : Int32 := (mo_within a1 1 30)
set_option maxHeartbeats 4000000 in
set_option maxRecDepth 20000 in
theorem c_mo_isPace (G : tt_G) (st : tt_St) (a1 : Int32)  : tt_C y_mo_isPace prog_7_method_51_code 1 (some .boolean) 1 22 G [.int a1] st (some (.int (mo_isPace a1))) st := by
  refine tt_enter (α := Int32) (mk := fun r => (some (.int r), st)) (T := (mo_isPace a1)) (by decide +kernel) (Nat.le_of_ble_eq_true rfl) (fun κ hC hR => ?_)
  rw [mo_isPace]
  refine r_iload_n 0 hC d_mo_isPace_0 rfl ?_
  refine r_iconst (v := 1) hC d_mo_isPace_1 (by decide) ?_
  refine r_bipush (v := 30) hC d_mo_isPace_2 (by decide) ?_
  refine r_callS (rest := []) (stk1 := [.int (mo_within a1 1 30)]) hC d_mo_isPace_4 (c_mo_within G st a1 1 30) mw_mo_within ms_mo_within ml_mo_93 rfl rfl rfl (Nat.le_of_ble_eq_true rfl) rfl ?_
  exact r_iret hC hR d_mo_isPace_7 (tt_nb (mo_within_b _ _ _)) rfl
/-! TideTableModel.at(I)I -/
def mo_at (st : tt_St) (a1 : Int32) : Int32 := (if (tt_I st 49 13) ≤ a1 then 0 else (tt_A st 60 (Int32.toNatClampNeg a1)))
set_option maxHeartbeats 4000000 in
set_option maxRecDepth 20000 in
theorem c_mo_at (G : tt_G) (st : tt_St) (a1 : Int32) (hl : mo_pl st) (hk : 0 ≤ a1.toInt) : tt_C y_mo_at prog_7_method_11_code 2 (some .int) 0 0 G [.ref (tt_ad G 49), .int a1] st (some (.int (mo_at st a1))) st := by
  refine tt_enter (α := Int32) (mk := fun r => (some (.int r), st)) (T := (mo_at st a1)) (by decide +kernel) (Nat.le_of_ble_eq_true rfl) (fun κ hC hR => ?_)
  rw [mo_at]
  refine r_iload_n 1 hC d_mo_at_0 rfl ?_
  refine r_aload_n 0 hC d_mo_at_1 rfl ?_
  refine r_getI hC d_mo_at_2 fl_mo_97 rfl rfl ?_
  refine r_icmp_ge (tgt := 17) hC d_mo_at_5 (by decide) (fun c_5 => ?_) (fun c_5 => ?_)
  ·
    refine r_iconst (v := 0) hC d_mo_at_17 (by decide) ?_
    exact r_iret hC hR d_mo_at_18 rfl rfl
  ·
    refine r_aload_n 0 hC d_mo_at_8 rfl ?_
    refine r_getR (r := 60) hC d_mo_at_9 fl_mo_40 rfl rfl rfl ?_
    refine r_iload_n 1 hC d_mo_at_12 rfl ?_
    refine r_bald (n := 96) hC d_mo_at_13 rfl (by decide) rfl rfl (mo_at_in hl hk c_5) ?_
    refine r_goto (tgt := 18) hC d_mo_at_14 (by decide) ?_
    exact r_iret hC hR d_mo_at_18 rfl rfl
/-! TideTableModel.isFigure(I)Z -/
def mo_isFigure (st : tt_St) (a1 : Int32) : Int32 := (mo_within ((mo_at st a1) - 48) 0 9)
set_option maxHeartbeats 4000000 in
set_option maxRecDepth 20000 in
theorem c_mo_isFigure (G : tt_G) (st : tt_St) (a1 : Int32) (hl : mo_pl st) (hk : 0 ≤ a1.toInt) : tt_C y_mo_isFigure prog_7_method_12_code 2 (some .boolean) 1 22 G [.ref (tt_ad G 49), .int a1] st (some (.int (mo_isFigure st a1))) st := by
  refine tt_enter (α := Int32) (mk := fun r => (some (.int r), st)) (T := (mo_isFigure st a1)) (by decide +kernel) (Nat.le_of_ble_eq_true rfl) (fun κ hC hR => ?_)
  rw [mo_isFigure]
  refine r_aload_n 0 hC d_mo_isFigure_0 rfl ?_
  refine r_iload_n 1 hC d_mo_isFigure_1 rfl ?_
  refine r_callV (o := 49) (rest := []) (stk1 := [.int (mo_at st a1)]) hC d_mo_isFigure_2 (c_mo_at G st a1 hl hk) mw_mo_at mi_mo_at mz_mo_at ml_mo_101 rfl rfl rfl rfl rfl (Nat.le_of_ble_eq_true rfl) rfl ?_
  refine r_bipush (v := 48) hC d_mo_isFigure_5 (by decide) ?_
  refine r_isub hC d_mo_isFigure_7 ?_
  refine r_iconst (v := 0) hC d_mo_isFigure_8 (by decide) ?_
  refine r_bipush (v := 9) hC d_mo_isFigure_9 (by decide) ?_
  refine r_callS (rest := []) (stk1 := [.int (mo_within ((mo_at st a1) - 48) 0 9)]) hC d_mo_isFigure_11 (c_mo_within G st ((mo_at st a1) - 48) 0 9) mw_mo_within ms_mo_within ml_mo_93 rfl rfl rfl (Nat.le_of_ble_eq_true rfl) rfl ?_
  exact r_iret hC hR d_mo_isFigure_14 (tt_nb (mo_within_b _ _ _)) rfl
/-! TideTableModel.isPort(I)Z -/
def mo_isPort (st : tt_St) (a1 : Int32) : Int32 := (mo_within a1 0 ((tt_I st 49 1) - 1))
set_option maxHeartbeats 4000000 in
set_option maxRecDepth 20000 in
theorem c_mo_isPort (G : tt_G) (st : tt_St) (a1 : Int32)  : tt_C y_mo_isPort prog_7_method_19_code 2 (some .boolean) 1 22 G [.ref (tt_ad G 49), .int a1] st (some (.int (mo_isPort st a1))) st := by
  refine tt_enter (α := Int32) (mk := fun r => (some (.int r), st)) (T := (mo_isPort st a1)) (by decide +kernel) (Nat.le_of_ble_eq_true rfl) (fun κ hC hR => ?_)
  rw [mo_isPort]
  refine r_iload_n 1 hC d_mo_isPort_0 rfl ?_
  refine r_iconst (v := 0) hC d_mo_isPort_1 (by decide) ?_
  refine r_aload_n 0 hC d_mo_isPort_2 rfl ?_
  refine r_getI hC d_mo_isPort_3 fl_mo_138 rfl rfl ?_
  refine r_iconst (v := 1) hC d_mo_isPort_6 (by decide) ?_
  refine r_isub hC d_mo_isPort_7 ?_
  refine r_callS (rest := []) (stk1 := [.int (mo_within a1 0 ((tt_I st 49 1) - 1))]) hC d_mo_isPort_8 (c_mo_within G st a1 0 ((tt_I st 49 1) - 1)) mw_mo_within ms_mo_within ml_mo_93 rfl rfl rfl (Nat.le_of_ble_eq_true rfl) rfl ?_
  exact r_iret hC hR d_mo_isPort_11 (tt_nb (mo_within_b _ _ _)) rfl
/-! TideTableModel.waveNow(III)I -/
def mo_waveNow (st : tt_St) (a1 : Int32) (a2 : Int32) (a3 : Int32) : Int32 := (tt_A st 55 (Int32.toNatClampNeg (((9 * a1) + (3 * a2)) + a3)))
set_option maxHeartbeats 4000000 in
set_option maxRecDepth 20000 in
theorem c_mo_waveNow (G : tt_G) (st : tt_St) (a1 : Int32) (a2 : Int32) (a3 : Int32) (hp : vp_in a1 4) (hw : vp_in a2 3) (hq : vp_in a3 3) : tt_C y_mo_waveNow prog_7_method_24_code 4 (some .int) 0 0 G [.ref (tt_ad G 49), .int a1, .int a2, .int a3] st (some (.int (mo_waveNow st a1 a2 a3))) st := by
  refine tt_enter (α := Int32) (mk := fun r => (some (.int r), st)) (T := (mo_waveNow st a1 a2 a3)) (by decide +kernel) (Nat.le_of_ble_eq_true rfl) (fun κ hC hR => ?_)
  rw [mo_waveNow]
  refine r_aload_n 0 hC d_mo_waveNow_0 rfl ?_
  refine r_getR (r := 55) hC d_mo_waveNow_1 fl_mo_25 rfl rfl rfl ?_
  refine r_bipush (v := 9) hC d_mo_waveNow_4 (by decide) ?_
  refine r_iload_n 1 hC d_mo_waveNow_6 rfl ?_
  refine r_imul hC d_mo_waveNow_7 ?_
  refine r_iconst (v := 3) hC d_mo_waveNow_8 (by decide) ?_
  refine r_iload_n 2 hC d_mo_waveNow_9 rfl ?_
  refine r_imul hC d_mo_waveNow_10 ?_
  refine r_iadd hC d_mo_waveNow_11 ?_
  refine r_iload_n 3 hC d_mo_waveNow_12 rfl ?_
  refine r_iadd hC d_mo_waveNow_13 ?_
  refine r_iald (n := 36) hC d_mo_waveNow_14 rfl (by decide) rfl rfl (tt_ix3 hp hw hq) ?_
  exact r_iret hC hR d_mo_waveNow_15 rfl rfl
/-! TideTableModel.round(I)I -/
def mo_round (st : tt_St) (a1 : Int32) : Int32 := (if (mo_within a1 0 64) = 0 then (-10102) else (tt_A st 56 (Int32.toNatClampNeg a1)))
set_option maxHeartbeats 4000000 in
set_option maxRecDepth 20000 in
theorem c_mo_round (G : tt_G) (st : tt_St) (a1 : Int32)  : tt_C y_mo_round prog_7_method_27_code 2 (some .int) 1 22 G [.ref (tt_ad G 49), .int a1] st (some (.int (mo_round st a1))) st := by
  refine tt_enter (α := Int32) (mk := fun r => (some (.int r), st)) (T := (mo_round st a1)) (by decide +kernel) (Nat.le_of_ble_eq_true rfl) (fun κ hC hR => ?_)
  rw [mo_round]
  refine r_iload_n 1 hC d_mo_round_0 rfl ?_
  refine r_iconst (v := 0) hC d_mo_round_1 (by decide) ?_
  refine r_bipush (v := 64) hC d_mo_round_2 (by decide) ?_
  refine r_callS (rest := []) (stk1 := [.int (mo_within a1 0 64)]) hC d_mo_round_4 (c_mo_within G st a1 0 64) mw_mo_within ms_mo_within ml_mo_93 rfl rfl rfl (Nat.le_of_ble_eq_true rfl) rfl ?_
  refine r_if_eq (tgt := 19) hC d_mo_round_7 (by decide) (fun c_7 => ?_) (fun c_7 => ?_)
  ·
    refine r_sipush (v := (-10102)) hC d_mo_round_19 (by decide) ?_
    exact r_iret hC hR d_mo_round_22 rfl rfl
  ·
    refine r_aload_n 0 hC d_mo_round_10 rfl ?_
    refine r_getR (r := 56) hC d_mo_round_11 fl_mo_28 rfl rfl rfl ?_
    refine r_iload_n 1 hC d_mo_round_14 rfl ?_
    refine r_iald (n := 65) hC d_mo_round_15 rfl (by decide) rfl rfl (mo_within_in (by decide) c_7) ?_
    refine r_goto (tgt := 22) hC d_mo_round_16 (by decide) ?_
    exact r_iret hC hR d_mo_round_22 rfl rfl

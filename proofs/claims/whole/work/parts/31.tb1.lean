/-! TideTable.within(III)Z -/
def tb_within (a1 : Int32) (a2 : Int32) (a3 : Int32) : Int32 := (if a1 < a2 then 0 else (if a3 < a1 then 0 else 1))
set_option maxHeartbeats 4000000 in
set_option maxRecDepth 20000 in
theorem c_tb_within (G : tt_G) (st : tt_St) (a1 : Int32) (a2 : Int32) (a3 : Int32)  : tt_C y_tb_within prog_1_method_34_code 3 (some .boolean) 0 0 G [.int a1, .int a2, .int a3] st (some (.int (tb_within a1 a2 a3))) st := by
  refine tt_enter_pi (T := (tb_within a1 a2 a3)) (by decide +kernel) (Nat.le_of_ble_eq_true rfl) (fun κ hC hR => ?_)
  rw [tb_within]
  refine r_iload_n 0 hC d_tb_within_0 rfl ?_
  refine r_iload_n 1 hC d_tb_within_1 rfl ?_
  refine r_icmp_lt (tgt := 14) hC d_tb_within_2 (by decide) (fun c_2 => ?_) (fun c_2 => ?_)
  ·
    refine r_iconst (v := 0) hC d_tb_within_14 (by decide) ?_
    exact r_iret_pi hC hR d_tb_within_15 rfl
  ·
    refine r_iload_n 0 hC d_tb_within_5 rfl ?_
    refine r_iload_n 2 hC d_tb_within_6 rfl ?_
    refine r_icmp_gt (tgt := 14) hC d_tb_within_7 (by decide) (fun c_7 => ?_) (fun c_7 => ?_)
    ·
      refine r_iconst (v := 0) hC d_tb_within_14 (by decide) ?_
      exact r_iret_pi hC hR d_tb_within_15 rfl
    ·
      refine r_iconst (v := 1) hC d_tb_within_10 (by decide) ?_
      refine r_goto (tgt := 15) hC d_tb_within_11 (by decide) ?_
      exact r_iret_pi hC hR d_tb_within_15 rfl
/-! TideTable.with(JI)J -/
def tb_with (a1 : Int64) (a2 : Int32) : Int64 := ((31 * a1) + (Int32.toInt64 a2))
set_option maxHeartbeats 4000000 in
set_option maxRecDepth 20000 in
theorem c_tb_with (G : tt_G) (st : tt_St) (a1 : Int64) (a2 : Int32)  : tt_C y_tb_with prog_1_method_33_code 3 (some .long) 0 0 G [.long a1, .int a2] st (some (.long (tb_with a1 a2))) st := by
  refine tt_enter_pl (T := (tb_with a1 a2)) (by decide +kernel) (Nat.le_of_ble_eq_true rfl) (fun κ hC hR => ?_)
  rw [tb_with]
  refine r_ldc2 hC d_tb_with_0 k_tb_195 ?_
  refine r_lload_n 0 hC d_tb_with_3 rfl ?_
  refine r_lmul hC d_tb_with_4 ?_
  refine r_iload_n 1 hC d_tb_with_5 rfl ?_
  refine r_i2l hC d_tb_with_6 ?_
  refine r_ladd hC d_tb_with_7 ?_
  exact r_lret_pl hC hR d_tb_with_8
/-! TideTable.nextSeed(I)I -/
def tb_nextSeed (a1 : Int32) : Int32 := (((1103515245 * a1) + 12345) &&& 2147483647)
set_option maxHeartbeats 4000000 in
set_option maxRecDepth 20000 in
theorem c_tb_nextSeed (G : tt_G) (st : tt_St) (a1 : Int32)  : tt_C y_tb_nextSeed prog_1_method_38_code 1 (some .int) 0 0 G [.int a1] st (some (.int (tb_nextSeed a1))) st := by
  refine tt_enter_pi (T := (tb_nextSeed a1)) (by decide +kernel) (Nat.le_of_ble_eq_true rfl) (fun κ hC hR => ?_)
  rw [tb_nextSeed]
  refine r_ldc hC d_tb_nextSeed_0 k_tb_213 ?_
  refine r_iload_n 0 hC d_tb_nextSeed_2 rfl ?_
  refine r_imul hC d_tb_nextSeed_3 ?_
  refine r_sipush (v := 12345) hC d_tb_nextSeed_4 (by decide) ?_
  refine r_iadd hC d_tb_nextSeed_7 ?_
  refine r_ldc hC d_tb_nextSeed_8 k_tb_214 ?_
  refine r_iand hC d_tb_nextSeed_10 ?_
  exact r_iret_pi hC hR d_tb_nextSeed_11 rfl
/-! TideTable.leftAtWorst(II)I -/
def tb_leftAtWorst (a1 : Int32) (a2 : Int32) : Int32 := (ma_max (in_bitCount (a1 &&& a2)) (in_bitCount (a1 &&& (a2 ^^^ (-1)))))
set_option maxHeartbeats 4000000 in
set_option maxRecDepth 20000 in
theorem c_tb_leftAtWorst (G : tt_G) (st : tt_St) (a1 : Int32) (a2 : Int32)  : tt_C y_tb_leftAtWorst prog_1_method_37_code 2 (some .int) 1 21 G [.int a1, .int a2] st (some (.int (tb_leftAtWorst a1 a2))) st := by
  refine tt_enter_pi (T := (tb_leftAtWorst a1 a2)) (by decide +kernel) (Nat.le_of_ble_eq_true rfl) (fun κ hC hR => ?_)
  rw [tb_leftAtWorst]
  refine r_iload_n 0 hC d_tb_leftAtWorst_0 rfl ?_
  refine r_iload_n 1 hC d_tb_leftAtWorst_1 rfl ?_
  refine r_iand hC d_tb_leftAtWorst_2 ?_
  refine r_callS (rest := []) (stk1 := [.int (in_bitCount (a1 &&& a2))]) hC d_tb_leftAtWorst_3 (c_in_bitCount G st (a1 &&& a2)) mw_in_bitCount ms_in_bitCount ml_tb_203 rfl rfl rfl (Nat.le_of_ble_eq_true rfl) rfl ?_
  refine r_iload_n 0 hC d_tb_leftAtWorst_6 rfl ?_
  refine r_iload_n 1 hC d_tb_leftAtWorst_7 rfl ?_
  refine r_iconst (v := (-1)) hC d_tb_leftAtWorst_8 (by decide) ?_
  refine r_ixor hC d_tb_leftAtWorst_9 ?_
  refine r_iand hC d_tb_leftAtWorst_10 ?_
  refine r_callS (rest := [.int (in_bitCount (a1 &&& a2))]) (stk1 := [.int (in_bitCount (a1 &&& (a2 ^^^ (-1)))), .int (in_bitCount (a1 &&& a2))]) hC d_tb_leftAtWorst_11 (c_in_bitCount G st (a1 &&& (a2 ^^^ (-1)))) mw_in_bitCount ms_in_bitCount ml_tb_203 rfl rfl rfl (Nat.le_of_ble_eq_true rfl) rfl ?_
  refine r_callS (rest := []) (stk1 := [.int (ma_max (in_bitCount (a1 &&& a2)) (in_bitCount (a1 &&& (a2 ^^^ (-1)))))]) hC d_tb_leftAtWorst_14 (c_ma_max G st (in_bitCount (a1 &&& a2)) (in_bitCount (a1 &&& (a2 ^^^ (-1))))) mw_ma_max ms_ma_max ml_tb_208 rfl rfl rfl (Nat.le_of_ble_eq_true rfl) rfl ?_
  exact r_iret_pi hC hR d_tb_leftAtWorst_17 rfl
/-! TideTable$Sea.knows(I)Z -/
def se_knows (st : tt_St) (o : Nat) (a1 : Int32) : Int32 := (if a1 < 0 then 0 else (if (tt_I st o 1) ≤ a1 then 0 else 1))
set_option maxHeartbeats 4000000 in
set_option maxRecDepth 20000 in
theorem c_se_knows (G : tt_G) (st : tt_St) (o : Nat) (a1 : Int32) (ho : tt_ci o = 2) : tt_C y_se_knows prog_4_method_3_code 2 (some .boolean) 0 0 G [.ref (tt_ad G o), .int a1] st (some (.int (se_knows st o a1))) st := by
  refine tt_enter_pi (T := (se_knows st o a1)) (by decide +kernel) (Nat.le_of_ble_eq_true rfl) (fun κ hC hR => ?_)
  rw [se_knows]
  refine r_iload_n 1 hC d_se_knows_0 rfl ?_
  refine r_if_lt (tgt := 16) hC d_se_knows_1 (by decide) (fun c_1 => ?_) (fun c_1 => ?_)
  ·
    refine r_iconst (v := 0) hC d_se_knows_16 (by decide) ?_
    exact r_iret_pi hC hR d_se_knows_17 rfl
  ·
    refine r_iload_n 1 hC d_se_knows_4 rfl ?_
    refine r_aload_n 0 hC d_se_knows_5 rfl ?_
    refine r_getI hC d_se_knows_6 fl_se_18 rfl ho ?_
    refine r_icmp_ge (tgt := 16) hC d_se_knows_9 (by decide) (fun c_9 => ?_) (fun c_9 => ?_)
    ·
      refine r_iconst (v := 0) hC d_se_knows_16 (by decide) ?_
      exact r_iret_pi hC hR d_se_knows_17 rfl
    ·
      refine r_iconst (v := 1) hC d_se_knows_12 (by decide) ?_
      refine r_goto (tgt := 17) hC d_se_knows_13 (by decide) ?_
      exact r_iret_pi hC hR d_se_knows_17 rfl
/-! TideTable$Port.has(I)Z -/
def po_has (st : tt_St) (o : Nat) (a1 : Int32) : Int32 := (if a1 < 0 then 0 else (if (tt_I st o 6) ≤ a1 then 0 else 1))
set_option maxHeartbeats 4000000 in
set_option maxRecDepth 20000 in
theorem c_po_has (G : tt_G) (st : tt_St) (o : Nat) (a1 : Int32) (ho : tt_ci o = 1) : tt_C y_po_has prog_3_method_4_code 2 (some .boolean) 0 0 G [.ref (tt_ad G o), .int a1] st (some (.int (po_has st o a1))) st := by
  refine tt_enter_pi (T := (po_has st o a1)) (by decide +kernel) (Nat.le_of_ble_eq_true rfl) (fun κ hC hR => ?_)
  rw [po_has]
  refine r_iload_n 1 hC d_po_has_0 rfl ?_
  refine r_if_lt (tgt := 16) hC d_po_has_1 (by decide) (fun c_1 => ?_) (fun c_1 => ?_)
  ·
    refine r_iconst (v := 0) hC d_po_has_16 (by decide) ?_
    exact r_iret_pi hC hR d_po_has_17 rfl
  ·
    refine r_iload_n 1 hC d_po_has_4 rfl ?_
    refine r_aload_n 0 hC d_po_has_5 rfl ?_
    refine r_getI hC d_po_has_6 fl_po_34 rfl ho ?_
    refine r_icmp_ge (tgt := 16) hC d_po_has_9 (by decide) (fun c_9 => ?_) (fun c_9 => ?_)
    ·
      refine r_iconst (v := 0) hC d_po_has_16 (by decide) ?_
      exact r_iret_pi hC hR d_po_has_17 rfl
    ·
      refine r_iconst (v := 1) hC d_po_has_12 (by decide) ?_
      refine r_goto (tgt := 17) hC d_po_has_13 (by decide) ?_
      exact r_iret_pi hC hR d_po_has_17 rfl
/-! TideTable$Port.isA(I)Z -/
def po_isA (st : tt_St) (o : Nat) (a1 : Int32) : Int32 := (if a1 = 0 then 1 else (if a1 = (tt_I st o 0) then 1 else (if a1 = 1 then (if (tt_I st o 0) = 2 then 1 else 0) else 0)))
set_option maxHeartbeats 4000000 in
set_option maxRecDepth 20000 in
theorem c_po_isA (G : tt_G) (st : tt_St) (o : Nat) (a1 : Int32) (ho : tt_ci o = 1) : tt_C y_po_isA prog_3_method_5_code 2 (some .boolean) 0 0 G [.ref (tt_ad G o), .int a1] st (some (.int (po_isA st o a1))) st := by
  refine tt_enter_pi (T := (po_isA st o a1)) (by decide +kernel) (Nat.le_of_ble_eq_true rfl) (fun κ hC hR => ?_)
  rw [po_isA]
  refine r_iload_n 1 hC d_po_isA_0 rfl ?_
  refine r_if_eq (tgt := 25) hC d_po_isA_1 (by decide) (fun c_1 => ?_) (fun c_1 => ?_)
  ·
    refine r_iconst (v := 1) hC d_po_isA_25 (by decide) ?_
    refine r_goto (tgt := 30) hC d_po_isA_26 (by decide) ?_
    exact r_iret_pi hC hR d_po_isA_30 rfl
  ·
    refine r_iload_n 1 hC d_po_isA_4 rfl ?_
    refine r_aload_n 0 hC d_po_isA_5 rfl ?_
    refine r_getI hC d_po_isA_6 fl_po_22 rfl ho ?_
    refine r_icmp_eq (tgt := 25) hC d_po_isA_9 (by decide) (fun c_9 => ?_) (fun c_9 => ?_)
    ·
      refine r_iconst (v := 1) hC d_po_isA_25 (by decide) ?_
      refine r_goto (tgt := 30) hC d_po_isA_26 (by decide) ?_
      exact r_iret_pi hC hR d_po_isA_30 rfl
    ·
      refine r_iload_n 1 hC d_po_isA_12 rfl ?_
      refine r_iconst (v := 1) hC d_po_isA_13 (by decide) ?_
      refine r_icmp_ne (tgt := 29) hC d_po_isA_14 (by decide) (fun c_14 => ?_) (fun c_14 => ?_)
      ·
        refine r_iconst (v := 0) hC d_po_isA_29 (by decide) ?_
        exact r_iret_pi hC hR d_po_isA_30 rfl
      ·
        refine r_aload_n 0 hC d_po_isA_17 rfl ?_
        refine r_getI hC d_po_isA_18 fl_po_22 rfl ho ?_
        refine r_iconst (v := 2) hC d_po_isA_21 (by decide) ?_
        refine r_icmp_ne (tgt := 29) hC d_po_isA_22 (by decide) (fun c_22 => ?_) (fun c_22 => ?_)
        ·
          refine r_iconst (v := 0) hC d_po_isA_29 (by decide) ?_
          exact r_iret_pi hC hR d_po_isA_30 rfl
        ·
          refine r_iconst (v := 1) hC d_po_isA_25 (by decide) ?_
          refine r_goto (tgt := 30) hC d_po_isA_26 (by decide) ?_
          exact r_iret_pi hC hR d_po_isA_30 rfl

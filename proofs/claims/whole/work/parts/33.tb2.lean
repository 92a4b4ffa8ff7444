/-! TideTable.roundAt(I)I -/
def tb_roundAt (a1 : Int32) : Int32 := (if (if (a1 &&& 63) ≤ 32 then (a1 &&& 63) else (64 - (a1 &&& 63)) : Int32) ≤ 16 then (tt_sv 0 (Int32.toNatClampNeg (if (a1 &&& 63) ≤ 32 then (a1 &&& 63) else (64 - (a1 &&& 63)) : Int32))) else (-(tt_sv 0 (Int32.toNatClampNeg (32 - (if (a1 &&& 63) ≤ 32 then (a1 &&& 63) else (64 - (a1 &&& 63)) : Int32))))))
set_option maxHeartbeats 4000000 in
set_option maxRecDepth 20000 in
theorem c_tb_roundAt (G : tt_G) (st : tt_St) (a1 : Int32)  : tt_C y_tb_roundAt prog_1_method_35_code 2 (some .int) 0 0 G [.int a1] st (some (.int (tb_roundAt a1))) st := by
  refine tt_enter_pi (T := (tb_roundAt a1)) (by decide +kernel) (Nat.le_of_ble_eq_true rfl) (fun κ hC hR => ?_)
  rw [tb_roundAt]
  refine r_iload_n 0 hC d_tb_roundAt_0 rfl ?_
  refine r_bipush (v := 63) hC d_tb_roundAt_1 (by decide) ?_
  refine r_iand hC d_tb_roundAt_3 ?_
  refine r_istore_n [(1, .int (a1 &&& 63)), (0, .int a1)] hC d_tb_roundAt_4 rfl (by decide) rfl ?_
  refine r_iload_n 0 hC d_tb_roundAt_5 rfl ?_
  refine r_bipush (v := 32) hC d_tb_roundAt_6 (by decide) ?_
  refine tt_join 16 [(1, .int (if (a1 &&& 63) ≤ 32 then (a1 &&& 63) else (64 - (a1 &&& 63)) : Int32))] [] ?_ (fun kj_8 => ?_)
  ·
    refine r_iload_n 0 hC d_tb_roundAt_16 rfl ?_
    refine r_bipush (v := 16) hC d_tb_roundAt_17 (by decide) ?_
    refine r_icmp_le (tgt := 34) hC d_tb_roundAt_19 (by decide) (fun c_19 => ?_) (fun c_19 => ?_)
    ·
      refine r_gets (j := 0) hC d_tb_roundAt_34 (by decide) gs_tb_197 ?_
      refine r_iload_n 0 hC d_tb_roundAt_37 rfl ?_
      refine r_tald hC d_tb_roundAt_38 (by decide) (tt_f1 c_19) ?_
      exact r_iret_pi hC hR d_tb_roundAt_39 rfl
    ·
      refine r_gets (j := 0) hC d_tb_roundAt_22 (by decide) gs_tb_197 ?_
      refine r_bipush (v := 32) hC d_tb_roundAt_25 (by decide) ?_
      refine r_iload_n 0 hC d_tb_roundAt_27 rfl ?_
      refine r_isub hC d_tb_roundAt_28 ?_
      refine r_tald hC d_tb_roundAt_29 (by decide) (tt_f2 c_19) ?_
      refine r_ineg hC d_tb_roundAt_30 ?_
      refine r_goto (tgt := 39) hC d_tb_roundAt_31 (by decide) ?_
      exact r_iret_pi hC hR d_tb_roundAt_39 rfl
  ·
    refine j_icmp_le (tgt := 16) hC d_tb_roundAt_8 (by decide) (fun c_8 => ?_) (fun c_8 => ?_)
    ·
      exact tt_cast [0] (by simp only [if_pos c_8]; rfl) rfl kj_8
    ·
      refine r_bipush (v := 64) hC d_tb_roundAt_11 (by decide) ?_
      refine r_iload_n 0 hC d_tb_roundAt_13 rfl ?_
      refine r_isub hC d_tb_roundAt_14 ?_
      refine r_istore_n [(1, .int (64 - (a1 &&& 63))), (0, .int a1)] hC d_tb_roundAt_15 rfl (by decide) rfl ?_
      exact tt_cast [0] (by simp only [if_neg c_8]; rfl) rfl kj_8

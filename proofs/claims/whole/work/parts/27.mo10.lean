/-! TideTableModel.drawnNow(III)I -/
def mo_drawnNow_l15 (a1 : Int32) (a2 : Int32) (a3 : Int32) : Nat → Nat → Int32 → Int32 → tt_St → Int32 × Int32 × tt_St
  | 0, j, x4, x5, st => (x4, x5, st)
  | n + 1, j, x4, x5, st => (mo_drawnNow_l15 a1 a2 a3 n (j + 1) (x4 + (if (mo_heightAt ((mo_draw ((mo_draw st (tt_I st 49 1)).2) 1440).2) (mo_draw st (tt_I st 49 1)).1 (mo_draw ((mo_draw st (tt_I st 49 1)).2) 1440).1) < (10 * (tt_A ((mo_draw ((mo_draw st (tt_I st 49 1)).2) 1440).2) 51 (Int32.toNatClampNeg (mo_draw st (tt_I st 49 1)).1))) then 0 else 1 : Int32)) (x5 + (mo_heightAt ((mo_draw ((mo_draw st (tt_I st 49 1)).2) 1440).2) (mo_draw st (tt_I st 49 1)).1 (mo_draw ((mo_draw st (tt_I st 49 1)).2) 1440).1)) ((mo_draw ((mo_draw st (tt_I st 49 1)).2) 1440).2))
set_option maxHeartbeats 4000000 in
set_option maxRecDepth 20000 in
theorem l_mo_drawnNow_15 {α : Type} {G : tt_G} {κ : tt_X α} {T : α} (hC : tt_Cx G κ prog_7_method_67_code "TideTableModel" 9 6 141) (a1 : Int32) (a2 : Int32) (a3 : Int32) (ht : 0 ≤ a1.toInt) : ∀ (n j : Nat) (x4 : Int32) (x5 : Int32) (st : tt_St), j + n = (Int32.toNatClampNeg a1) → mo_ok st → ¬ tt_I st 49 1 = 0 → tt_V G κ T ((mo_drawnNow_l15 a1 a2 a3 n j x4 x5 st).2.2) 84 [(0, .ref (tt_ad G 49)), (3, .int a3), (4, .int ((mo_drawnNow_l15 a1 a2 a3 n j x4 x5 st).1)), (5, .int ((mo_drawnNow_l15 a1 a2 a3 n j x4 x5 st).2.1))] [] → tt_V G κ T st 15 [(0, .ref (tt_ad G 49)), (1, .int a1), (3, .int a3), (4, .int x4), (5, .int x5), (6, .int (nI j))] [] := by
  intro n
  induction n with
  | zero =>
    intro j x4 x5 st hj hI hz k
    refine r_iload 5 hC d_mo_drawnNow_15 rfl ?_
    refine r_iload_n 1 hC d_mo_drawnNow_17 rfl ?_
    refine t_icmp_ge (tgt := 84) hC d_mo_drawnNow_18 (by decide) (tt_end ht (by omega) (by have h9 := tt_rg a1; rw [tt_clamp] at hj; omega)) ?_
    exact tt_cast [0, 2, 3, 4] rfl rfl k
  | succ n ih =>
    intro j x4 x5 st hj hI hz k
    refine r_iload 5 hC d_mo_drawnNow_15 rfl ?_
    refine r_iload_n 1 hC d_mo_drawnNow_17 rfl ?_
    refine f_icmp_ge (tgt := 84) hC d_mo_drawnNow_18 (by decide) (tt_stay (by omega)) ?_
    refine r_aload_n 0 hC d_mo_drawnNow_21 rfl ?_
    refine r_aload_n 0 hC d_mo_drawnNow_22 rfl ?_
    refine r_getI hC d_mo_drawnNow_23 fl_mo_138 rfl rfl ?_
    refine r_callV (o := 49) (rest := []) (stk1 := [.int (mo_draw st (tt_I st 49 1)).1]) hC d_mo_drawnNow_26 (c_mo_draw G st (tt_I st 49 1) (mo_z64 hz)) mw_mo_draw mi_mo_draw mz_mo_draw ml_mo_251 rfl rfl rfl rfl rfl (Nat.le_of_ble_eq_true rfl) rfl ?_
    refine r_istore [(7, .int (mo_draw st (tt_I st 49 1)).1), (0, .ref (tt_ad G 49)), (1, .int a1), (3, .int a3), (4, .int x4), (5, .int x5), (6, .int (nI j))] hC d_mo_drawnNow_29 (by decide) rfl ?_
    refine r_aload_n 1 hC d_mo_drawnNow_31 rfl ?_
    refine r_iload 0 hC d_mo_drawnNow_32 rfl ?_
    refine r_aload_n 1 hC d_mo_drawnNow_34 rfl ?_
    refine r_sipush (v := 1440) hC d_mo_drawnNow_35 (by decide) ?_
    refine r_callV (o := 49) (rest := [.int (mo_draw st (tt_I st 49 1)).1, .ref (tt_ad G 49)]) (stk1 := [.int (mo_draw ((mo_draw st (tt_I st 49 1)).2) 1440).1, .int (mo_draw st (tt_I st 49 1)).1, .ref (tt_ad G 49)]) hC d_mo_drawnNow_38 (c_mo_draw G ((mo_draw st (tt_I st 49 1)).2) 1440 (by decide)) mw_mo_draw mi_mo_draw mz_mo_draw ml_mo_251 rfl rfl rfl rfl rfl (Nat.le_of_ble_eq_true rfl) rfl ?_
    refine r_callV (o := 49) (rest := []) (stk1 := [.int (mo_heightAt ((mo_draw ((mo_draw st (tt_I st 49 1)).2) 1440).2) (mo_draw st (tt_I st 49 1)).1 (mo_draw ((mo_draw st (tt_I st 49 1)).2) 1440).1)]) hC d_mo_drawnNow_41 (c_mo_heightAt G ((mo_draw ((mo_draw st (tt_I st 49 1)).2) 1440).2) (mo_draw st (tt_I st 49 1)).1 (mo_draw ((mo_draw st (tt_I st 49 1)).2) 1440).1 hI (mo_draw_in hI hz)) mw_mo_heightAt mi_mo_heightAt mz_mo_heightAt ml_mo_185 rfl rfl rfl rfl rfl (Nat.le_of_ble_eq_true rfl) rfl ?_
    refine r_istore [(8, .int (mo_heightAt ((mo_draw ((mo_draw st (tt_I st 49 1)).2) 1440).2) (mo_draw st (tt_I st 49 1)).1 (mo_draw ((mo_draw st (tt_I st 49 1)).2) 1440).1)), (7, .int (mo_draw st (tt_I st 49 1)).1), (0, .ref (tt_ad G 49)), (1, .int a1), (3, .int a3), (4, .int x4), (5, .int x5), (6, .int (nI j))] hC d_mo_drawnNow_44 (by decide) rfl ?_
    refine r_iload 5 hC d_mo_drawnNow_46 rfl ?_
    refine r_iload 0 hC d_mo_drawnNow_48 rfl ?_
    refine r_bipush (v := 10) hC d_mo_drawnNow_50 (by decide) ?_
    refine r_aload_n 2 hC d_mo_drawnNow_52 rfl ?_
    refine r_getR (r := 51) hC d_mo_drawnNow_53 fl_mo_13 rfl rfl rfl ?_
    refine r_iload 1 hC d_mo_drawnNow_56 rfl ?_
    refine r_iald (n := 4) hC d_mo_drawnNow_58 rfl (by decide) rfl rfl (mo_draw_in hI hz) ?_
    refine r_imul hC d_mo_drawnNow_59 ?_
    refine tt_join 68 [(0, .ref (tt_ad G 49)), (1, .int a1), (3, .int a3), (5, .int x5), (6, .int (nI j)), (8, .int (mo_heightAt ((mo_draw ((mo_draw st (tt_I st 49 1)).2) 1440).2) (mo_draw st (tt_I st 49 1)).1 (mo_draw ((mo_draw st (tt_I st 49 1)).2) 1440).1))] [.int (if (mo_heightAt ((mo_draw ((mo_draw st (tt_I st 49 1)).2) 1440).2) (mo_draw st (tt_I st 49 1)).1 (mo_draw ((mo_draw st (tt_I st 49 1)).2) 1440).1) < (10 * (tt_A ((mo_draw ((mo_draw st (tt_I st 49 1)).2) 1440).2) 51 (Int32.toNatClampNeg (mo_draw st (tt_I st 49 1)).1))) then 0 else 1 : Int32), .int x4] ?_ (fun kj_60 => ?_)
    ·
      refine r_iadd hC d_mo_drawnNow_68 ?_
      refine r_istore [(4, .int (x4 + (if (mo_heightAt ((mo_draw ((mo_draw st (tt_I st 49 1)).2) 1440).2) (mo_draw st (tt_I st 49 1)).1 (mo_draw ((mo_draw st (tt_I st 49 1)).2) 1440).1) < (10 * (tt_A ((mo_draw ((mo_draw st (tt_I st 49 1)).2) 1440).2) 51 (Int32.toNatClampNeg (mo_draw st (tt_I st 49 1)).1))) then 0 else 1 : Int32))), (0, .ref (tt_ad G 49)), (1, .int a1), (3, .int a3), (5, .int x5), (6, .int (nI j)), (8, .int (mo_heightAt ((mo_draw ((mo_draw st (tt_I st 49 1)).2) 1440).2) (mo_draw st (tt_I st 49 1)).1 (mo_draw ((mo_draw st (tt_I st 49 1)).2) 1440).1))] hC d_mo_drawnNow_69 (by decide) rfl ?_
      refine r_iload 4 hC d_mo_drawnNow_71 rfl ?_
      refine r_iload 6 hC d_mo_drawnNow_73 rfl ?_
      refine r_iadd hC d_mo_drawnNow_75 ?_
      refine r_istore [(5, .int (x5 + (mo_heightAt ((mo_draw ((mo_draw st (tt_I st 49 1)).2) 1440).2) (mo_draw st (tt_I st 49 1)).1 (mo_draw ((mo_draw st (tt_I st 49 1)).2) 1440).1))), (4, .int (x4 + (if (mo_heightAt ((mo_draw ((mo_draw st (tt_I st 49 1)).2) 1440).2) (mo_draw st (tt_I st 49 1)).1 (mo_draw ((mo_draw st (tt_I st 49 1)).2) 1440).1) < (10 * (tt_A ((mo_draw ((mo_draw st (tt_I st 49 1)).2) 1440).2) 51 (Int32.toNatClampNeg (mo_draw st (tt_I st 49 1)).1))) then 0 else 1 : Int32))), (0, .ref (tt_ad G 49)), (1, .int a1), (3, .int a3), (6, .int (nI j)), (8, .int (mo_heightAt ((mo_draw ((mo_draw st (tt_I st 49 1)).2) 1440).2) (mo_draw st (tt_I st 49 1)).1 (mo_draw ((mo_draw st (tt_I st 49 1)).2) 1440).1))] hC d_mo_drawnNow_76 (by decide) rfl ?_
      refine r_iinc 5 (nI (j + 1)) [(6, .int (nI (j + 1))), (5, .int (x5 + (mo_heightAt ((mo_draw ((mo_draw st (tt_I st 49 1)).2) 1440).2) (mo_draw st (tt_I st 49 1)).1 (mo_draw ((mo_draw st (tt_I st 49 1)).2) 1440).1))), (4, .int (x4 + (if (mo_heightAt ((mo_draw ((mo_draw st (tt_I st 49 1)).2) 1440).2) (mo_draw st (tt_I st 49 1)).1 (mo_draw ((mo_draw st (tt_I st 49 1)).2) 1440).1) < (10 * (tt_A ((mo_draw ((mo_draw st (tt_I st 49 1)).2) 1440).2) 51 (Int32.toNatClampNeg (mo_draw st (tt_I st 49 1)).1))) then 0 else 1 : Int32))), (0, .ref (tt_ad G 49)), (1, .int a1), (3, .int a3), (8, .int (mo_heightAt ((mo_draw ((mo_draw st (tt_I st 49 1)).2) 1440).2) (mo_draw st (tt_I st 49 1)).1 (mo_draw ((mo_draw st (tt_I st 49 1)).2) 1440).1))] hC d_mo_drawnNow_78 rfl (by rw [nI_succ]; rfl) (by decide) rfl ?_
      refine r_goto (tgt := 15) hC d_mo_drawnNow_81 (by decide) ?_
      exact tt_cast [3, 4, 5, 2, 1, 0] rfl rfl (ih (j + 1) (x4 + (if (mo_heightAt ((mo_draw ((mo_draw st (tt_I st 49 1)).2) 1440).2) (mo_draw st (tt_I st 49 1)).1 (mo_draw ((mo_draw st (tt_I st 49 1)).2) 1440).1) < (10 * (tt_A ((mo_draw ((mo_draw st (tt_I st 49 1)).2) 1440).2) 51 (Int32.toNatClampNeg (mo_draw st (tt_I st 49 1)).1))) then 0 else 1 : Int32)) (x5 + (mo_heightAt ((mo_draw ((mo_draw st (tt_I st 49 1)).2) 1440).2) (mo_draw st (tt_I st 49 1)).1 (mo_draw ((mo_draw st (tt_I st 49 1)).2) 1440).1)) ((mo_draw ((mo_draw st (tt_I st 49 1)).2) 1440).2) (by omega) hI hz (by simpa only [mo_drawnNow_l15] using k))
    ·
      refine j_icmp_lt (tgt := 67) hC d_mo_drawnNow_60 (by decide) (fun c_60 => ?_) (fun c_60 => ?_)
      ·
        refine r_iconst (v := 0) hC d_mo_drawnNow_67 (by decide) ?_
        exact tt_cast [2, 3, 4, 6, 7, 0] rfl (by simp only [if_pos c_60]) kj_60
      ·
        refine r_iconst (v := 1) hC d_mo_drawnNow_63 (by decide) ?_
        refine r_goto (tgt := 68) hC d_mo_drawnNow_64 (by decide) ?_
        exact tt_cast [2, 3, 4, 6, 7, 0] rfl (by simp only [if_neg c_60]) kj_60
def mo_drawnNow (st : tt_St) (a1 : Int32) (a2 : Int32) (a3 : Int32) : Int32 × tt_St := (if a3 = 0 then (((mo_drawnNow_l15 a1 a2 a3 (Int32.toNatClampNeg a1) 0 0 0 (tt_pL st 49 25 (Int32.toInt64 a2))).1), ((mo_drawnNow_l15 a1 a2 a3 (Int32.toNatClampNeg a1) 0 0 0 (tt_pL st 49 25 (Int32.toInt64 a2))).2.2)) else (if a3 = 1 then (((mo_drawnNow_l15 a1 a2 a3 (Int32.toNatClampNeg a1) 0 0 0 (tt_pL st 49 25 (Int32.toInt64 a2))).2.1), ((mo_drawnNow_l15 a1 a2 a3 (Int32.toNatClampNeg a1) 0 0 0 (tt_pL st 49 25 (Int32.toInt64 a2))).2.2)) else ((Int64.toInt32 (tt_L ((mo_drawnNow_l15 a1 a2 a3 (Int32.toNatClampNeg a1) 0 0 0 (tt_pL st 49 25 (Int32.toInt64 a2))).2.2) 49 25)), ((mo_drawnNow_l15 a1 a2 a3 (Int32.toNatClampNeg a1) 0 0 0 (tt_pL st 49 25 (Int32.toInt64 a2))).2.2))))
set_option maxHeartbeats 4000000 in
set_option maxRecDepth 20000 in
theorem c_mo_drawnNow (G : tt_G) (st : tt_St) (a1 : Int32) (a2 : Int32) (a3 : Int32) (hI : mo_ok st) (hz : ¬ tt_I st 49 1 = 0) (ht : 0 ≤ a1.toInt) : tt_C y_mo_drawnNow prog_7_method_67_code 9 (some .int) 6 141 G [.ref (tt_ad G 49), .int a1, .int a2, .int a3] st (some (.int (mo_drawnNow st a1 a2 a3).1)) (mo_drawnNow st a1 a2 a3).2 := by
  refine tt_enter_si (T := (mo_drawnNow st a1 a2 a3)) (by decide +kernel) (Nat.le_of_ble_eq_true rfl) (fun κ hC hR => ?_)
  rw [mo_drawnNow]
  refine r_aload_n 0 hC d_mo_drawnNow_0 rfl ?_
  refine r_iload_n 2 hC d_mo_drawnNow_1 rfl ?_
  refine r_i2l hC d_mo_drawnNow_2 ?_
  refine r_putL hC d_mo_drawnNow_3 fl_mo_241 fp_5_25 rfl rfl ?_
  refine r_iconst (v := 0) hC d_mo_drawnNow_6 (by decide) ?_
  refine r_istore [(4, .int 0), (0, .ref (tt_ad G 49)), (1, .int a1), (2, .int a2), (3, .int a3)] hC d_mo_drawnNow_7 (by decide) rfl ?_
  refine r_iconst (v := 0) hC d_mo_drawnNow_9 (by decide) ?_
  refine r_istore [(5, .int 0), (4, .int 0), (0, .ref (tt_ad G 49)), (1, .int a1), (2, .int a2), (3, .int a3)] hC d_mo_drawnNow_10 (by decide) rfl ?_
  refine r_iconst (v := 0) hC d_mo_drawnNow_12 (by decide) ?_
  refine r_istore [(6, .int 0), (5, .int 0), (4, .int 0), (0, .ref (tt_ad G 49)), (1, .int a1), (2, .int a2), (3, .int a3)] hC d_mo_drawnNow_13 (by decide) rfl ?_
  refine tt_cast [3, 4, 6, 2, 1, 0] rfl rfl (l_mo_drawnNow_15 hC a1 a2 a3 ht (Int32.toNatClampNeg a1) 0 0 0 (tt_pL st 49 25 (Int32.toInt64 a2)) (by omega) hI hz ?_)
  refine r_iload_n 1 hC d_mo_drawnNow_84 rfl ?_
  refine r_if_ne (tgt := 93) hC d_mo_drawnNow_85 (by decide) (fun c_85 => ?_) (fun c_85 => ?_)
  ·
    refine r_iload_n 1 hC d_mo_drawnNow_93 rfl ?_
    refine r_iconst (v := 1) hC d_mo_drawnNow_94 (by decide) ?_
    refine r_icmp_ne (tgt := 103) hC d_mo_drawnNow_95 (by decide) (fun c_95 => ?_) (fun c_95 => ?_)
    ·
      refine r_aload_n 0 hC d_mo_drawnNow_103 rfl ?_
      refine r_getL hC d_mo_drawnNow_104 fl_mo_241 rfl rfl ?_
      refine r_l2i hC d_mo_drawnNow_107 ?_
      exact r_iret_si hC hR d_mo_drawnNow_108 rfl
    ·
      refine r_iload 3 hC d_mo_drawnNow_98 rfl ?_
      refine r_goto (tgt := 108) hC d_mo_drawnNow_100 (by decide) ?_
      exact r_iret_si hC hR d_mo_drawnNow_108 rfl
  ·
    refine r_iload 2 hC d_mo_drawnNow_88 rfl ?_
    refine r_goto (tgt := 108) hC d_mo_drawnNow_90 (by decide) ?_
    exact r_iret_si hC hR d_mo_drawnNow_108 rfl
/-! TideTableModel.drawn(III)I -/
def mo_drawn (st : tt_St) (a1 : Int32) (a2 : Int32) (a3 : Int32) : Int32 × tt_St := (if (mo_within a1 1 50) = 0 then ((-10102), st) else (if a2 < 0 then ((-10102), st) else (if (mo_within a3 0 2) = 0 then ((-10102), st) else (if (tt_I st 49 1) = 0 then ((-10103), st) else ((mo_drawnNow st a1 a2 a3).1, (mo_drawnNow st a1 a2 a3).2)))))
set_option maxHeartbeats 4000000 in
set_option maxRecDepth 20000 in
theorem c_mo_drawn (G : tt_G) (st : tt_St) (a1 : Int32) (a2 : Int32) (a3 : Int32) (hI : mo_ok st) : tt_C y_mo_drawn prog_7_method_68_code 4 (some .int) 7 169 G [.ref (tt_ad G 49), .int a1, .int a2, .int a3] st (some (.int (mo_drawn st a1 a2 a3).1)) (mo_drawn st a1 a2 a3).2 := by
  refine tt_enter_si (T := (mo_drawn st a1 a2 a3)) (by decide +kernel) (Nat.le_of_ble_eq_true rfl) (fun κ hC hR => ?_)
  rw [mo_drawn]
  refine r_iload_n 1 hC d_mo_drawn_0 rfl ?_
  refine r_iconst (v := 1) hC d_mo_drawn_1 (by decide) ?_
  refine r_bipush (v := 50) hC d_mo_drawn_2 (by decide) ?_
  refine r_callS (rest := []) (stk1 := [.int (mo_within a1 1 50)]) hC d_mo_drawn_4 (c_mo_within G st a1 1 50) mw_mo_within ms_mo_within ml_mo_93 rfl rfl rfl (Nat.le_of_ble_eq_true rfl) rfl ?_
  refine r_if_eq (tgt := 23) hC d_mo_drawn_7 (by decide) (fun c_7 => ?_) (fun c_7 => ?_)
  ·
    refine r_sipush (v := (-10102)) hC d_mo_drawn_23 (by decide) ?_
    exact r_iret_si hC hR d_mo_drawn_26 rfl
  ·
    refine r_iload_n 2 hC d_mo_drawn_10 rfl ?_
    refine r_if_lt (tgt := 23) hC d_mo_drawn_11 (by decide) (fun c_11 => ?_) (fun c_11 => ?_)
    ·
      refine r_sipush (v := (-10102)) hC d_mo_drawn_23 (by decide) ?_
      exact r_iret_si hC hR d_mo_drawn_26 rfl
    ·
      refine r_iload_n 3 hC d_mo_drawn_14 rfl ?_
      refine r_iconst (v := 0) hC d_mo_drawn_15 (by decide) ?_
      refine r_iconst (v := 2) hC d_mo_drawn_16 (by decide) ?_
      refine r_callS (rest := []) (stk1 := [.int (mo_within a3 0 2)]) hC d_mo_drawn_17 (c_mo_within G st a3 0 2) mw_mo_within ms_mo_within ml_mo_93 rfl rfl rfl (Nat.le_of_ble_eq_true rfl) rfl ?_
      refine r_if_ne (tgt := 27) hC d_mo_drawn_20 (by decide) (fun c_20 => ?_) (fun c_20 => ?_)
      ·
        refine r_aload_n 0 hC d_mo_drawn_27 rfl ?_
        refine r_getI hC d_mo_drawn_28 fl_mo_138 rfl rfl ?_
        refine r_if_ne (tgt := 40) hC d_mo_drawn_31 (by decide) (fun c_31 => ?_) (fun c_31 => ?_)
        ·
          refine r_aload_n 0 hC d_mo_drawn_40 rfl ?_
          refine r_iload_n 1 hC d_mo_drawn_41 rfl ?_
          refine r_iload_n 2 hC d_mo_drawn_42 rfl ?_
          refine r_iload_n 3 hC d_mo_drawn_43 rfl ?_
          refine r_callV (o := 49) (rest := []) (stk1 := [.int (mo_drawnNow st a1 a2 a3).1]) hC d_mo_drawn_44 (c_mo_drawnNow G st a1 a2 a3 hI c_31 (mo_dr_t c_7)) mw_mo_drawnNow mi_mo_drawnNow mz_mo_drawnNow ml_mo_254 rfl rfl rfl rfl rfl (Nat.le_of_ble_eq_true rfl) rfl ?_
          exact r_iret_si hC hR d_mo_drawn_47 rfl
        ·
          refine r_sipush (v := (-10103)) hC d_mo_drawn_34 (by decide) ?_
          refine r_goto (tgt := 47) hC d_mo_drawn_37 (by decide) ?_
          exact r_iret_si hC hR d_mo_drawn_47 rfl
      ·
        refine r_sipush (v := (-10102)) hC d_mo_drawn_23 (by decide) ?_
        exact r_iret_si hC hR d_mo_drawn_26 rfl
/-! TideTableModel.digest()J -/
def mo_digest_l19 (x1 : Int32) : Nat → Nat → tt_St → tt_St
  | 0, j, st => st
  | n + 1, j, st => (mo_digest_l19 x1 n (j + 1) (mo_mix st (Int32.toInt64 (mo_portNow st x1 (nI j)))))
theorem mo_digest_l19_sm {x1 : Int32} : ∀ (n j : Nat) (st : tt_St), mo_sm st (mo_digest_l19 x1 n j st) := by
  intro n
  induction n with
  | zero => intro j st; exact ⟨rfl, rfl⟩
  | succ n ih => intro j st; rw [mo_digest_l19]; exact mo_sm.trans ⟨rfl, rfl⟩ (ih _ _)
set_option maxHeartbeats 4000000 in
set_option maxRecDepth 20000 in
theorem l_mo_digest_19 {α : Type} {G : tt_G} {κ : tt_X α} {T : α} (hC : tt_Cx G κ prog_7_method_77_code "TideTableModel" 3 8 186) (x1 : Int32) (hx : vp_in x1 4) : ∀ (n j : Nat) (st : tt_St), j + n = 7 → mo_ok st → tt_V G κ T (mo_digest_l19 x1 n j st) 42 [(0, .ref (tt_ad G 49)), (1, .int x1)] [] → tt_V G κ T st 19 [(0, .ref (tt_ad G 49)), (1, .int x1), (2, .int (nI j))] [] := by
  intro n
  induction n with
  | zero =>
    intro j st hj hI k
    refine r_iload_n 2 hC d_mo_digest_19 rfl ?_
    refine r_bipush (v := 7) hC d_mo_digest_20 (by decide) ?_
    refine t_icmp_ge (tgt := 42) hC d_mo_digest_22 (by decide) (nI_le (a := 7) (by omega) (by omega)) ?_
    exact tt_cast [0, 1] rfl rfl k
  | succ n ih =>
    intro j st hj hI k
    refine r_iload_n 2 hC d_mo_digest_19 rfl ?_
    refine r_bipush (v := 7) hC d_mo_digest_20 (by decide) ?_
    refine f_icmp_ge (tgt := 42) hC d_mo_digest_22 (by decide) (nI_ge (a := j) (b := 7) (by omega) (by omega)) ?_
    refine r_aload_n 0 hC d_mo_digest_25 rfl ?_
    refine r_aload_n 0 hC d_mo_digest_26 rfl ?_
    refine r_iload_n 1 hC d_mo_digest_27 rfl ?_
    refine r_iload_n 2 hC d_mo_digest_28 rfl ?_
    refine r_callV (o := 49) (rest := [.ref (tt_ad G 49)]) (stk1 := [.int (mo_portNow st x1 (nI j)), .ref (tt_ad G 49)]) hC d_mo_digest_29 (c_mo_portNow G st x1 (nI j) hI hx) mw_mo_portNow mi_mo_portNow mz_mo_portNow ml_mo_156 rfl rfl rfl rfl rfl (Nat.le_of_ble_eq_true rfl) rfl ?_
    refine r_i2l hC d_mo_digest_32 ?_
    refine r_callV (o := 49) (rest := []) (stk1 := []) hC d_mo_digest_33 (c_mo_mix G st (Int32.toInt64 (mo_portNow st x1 (nI j)))) mw_mo_mix mi_mo_mix mz_mo_mix ml_mo_283 rfl rfl rfl rfl rfl (Nat.le_of_ble_eq_true rfl) rfl ?_
    refine r_iinc 2 (nI (j + 1)) [(2, .int (nI (j + 1))), (0, .ref (tt_ad G 49)), (1, .int x1)] hC d_mo_digest_36 rfl (by rw [nI_succ]; rfl) (by decide) rfl ?_
    refine r_goto (tgt := 19) hC d_mo_digest_39 (by decide) ?_
    exact tt_cast [1, 2, 0] rfl rfl (ih (j + 1) (mo_mix st (Int32.toInt64 (mo_portNow st x1 (nI j)))) (by omega) hI (by simpa only [mo_digest_l19] using k))
def mo_digest_l44 (x1 : Int32) (w : Nat) : Nat → Nat → tt_St → tt_St
  | 0, j, st => st
  | n + 1, j, st => (mo_digest_l44 x1 w n (j + 1) (mo_mix st (Int32.toInt64 (tt_A st 55 (Int32.toNatClampNeg ((9 * x1) + (nI j)))))))
theorem mo_digest_l44_sm {x1 : Int32} {w : Nat} : ∀ (n j : Nat) (st : tt_St), mo_sm st (mo_digest_l44 x1 w n j st) := by
  intro n
  induction n with
  | zero => intro j st; exact ⟨rfl, rfl⟩
  | succ n ih => intro j st; rw [mo_digest_l44]; exact mo_sm.trans ⟨rfl, rfl⟩ (ih _ _)
set_option maxHeartbeats 4000000 in
set_option maxRecDepth 20000 in
theorem l_mo_digest_44 {α : Type} {G : tt_G} {κ : tt_X α} {T : α} (hC : tt_Cx G κ prog_7_method_77_code "TideTableModel" 3 8 186) (x1 : Int32) (w : Nat) (hx : vp_in x1 4) (hw9 : w ≤ 9) : ∀ (n j : Nat) (st : tt_St), j + n = w → mo_ok st → (3 * (tt_A st 54 (Int32.toNatClampNeg x1))) = nI w → tt_V G κ T (mo_digest_l44 x1 w n j st) 78 [(0, .ref (tt_ad G 49)), (1, .int x1)] [] → tt_V G κ T st 44 [(0, .ref (tt_ad G 49)), (1, .int x1), (2, .int (nI j))] [] := by
  intro n
  induction n with
  | zero =>
    intro j st hj hI hb2 k
    refine r_iload_n 2 hC d_mo_digest_44 rfl ?_
    refine r_iconst (v := 3) hC d_mo_digest_45 (by decide) ?_
    refine r_aload_n 0 hC d_mo_digest_46 rfl ?_
    refine r_getR (r := 54) hC d_mo_digest_47 fl_mo_22 rfl rfl rfl ?_
    refine r_iload_n 1 hC d_mo_digest_50 rfl ?_
    refine r_iald (n := 4) hC d_mo_digest_51 rfl (by decide) rfl rfl hx ?_
    refine r_imul hC d_mo_digest_52 ?_
    refine t_icmp_ge (tgt := 78) hC d_mo_digest_53 (by decide) (by rw [hb2]; exact nI_le (by omega) (by omega)) ?_
    exact tt_cast [0, 1] rfl rfl k
  | succ n ih =>
    intro j st hj hI hb2 k
    refine r_iload_n 2 hC d_mo_digest_44 rfl ?_
    refine r_iconst (v := 3) hC d_mo_digest_45 (by decide) ?_
    refine r_aload_n 0 hC d_mo_digest_46 rfl ?_
    refine r_getR (r := 54) hC d_mo_digest_47 fl_mo_22 rfl rfl rfl ?_
    refine r_iload_n 1 hC d_mo_digest_50 rfl ?_
    refine r_iald (n := 4) hC d_mo_digest_51 rfl (by decide) rfl rfl hx ?_
    refine r_imul hC d_mo_digest_52 ?_
    refine f_icmp_ge (tgt := 78) hC d_mo_digest_53 (by decide) (by rw [hb2]; exact nI_ge (a := j) (b := w) (by omega) (by omega)) ?_
    refine r_aload_n 0 hC d_mo_digest_56 rfl ?_
    refine r_aload_n 0 hC d_mo_digest_57 rfl ?_
    refine r_getR (r := 55) hC d_mo_digest_58 fl_mo_25 rfl rfl rfl ?_
    refine r_bipush (v := 9) hC d_mo_digest_61 (by decide) ?_
    refine r_iload_n 1 hC d_mo_digest_63 rfl ?_
    refine r_imul hC d_mo_digest_64 ?_
    refine r_iload_n 2 hC d_mo_digest_65 rfl ?_
    refine r_iadd hC d_mo_digest_66 ?_
    refine r_iald (n := 36) hC d_mo_digest_67 rfl (by decide) rfl rfl (tt_9 hx (by omega)) ?_
    refine r_i2l hC d_mo_digest_68 ?_
    refine r_callV (o := 49) (rest := []) (stk1 := []) hC d_mo_digest_69 (c_mo_mix G st (Int32.toInt64 (tt_A st 55 (Int32.toNatClampNeg ((9 * x1) + (nI j)))))) mw_mo_mix mi_mo_mix mz_mo_mix ml_mo_283 rfl rfl rfl rfl rfl (Nat.le_of_ble_eq_true rfl) rfl ?_
    refine r_iinc 2 (nI (j + 1)) [(2, .int (nI (j + 1))), (0, .ref (tt_ad G 49)), (1, .int x1)] hC d_mo_digest_72 rfl (by rw [nI_succ]; rfl) (by decide) rfl ?_
    refine r_goto (tgt := 44) hC d_mo_digest_75 (by decide) ?_
    exact tt_cast [1, 2, 0] rfl rfl (ih (j + 1) (mo_mix st (Int32.toInt64 (tt_A st 55 (Int32.toNatClampNeg ((9 * x1) + (nI j)))))) (by omega) hI hb2 (by simpa only [mo_digest_l44] using k))
def mo_digest_l80 (x1 : Int32) : Nat → Nat → tt_St → tt_St
  | 0, j, st => st
  | n + 1, j, st => (mo_digest_l80 x1 n (j + 1) (mo_mix (mo_mix st (Int32.toInt64 (mo_sumAt st x1 (mo_tickBy (nI j))))) (Int32.toInt64 (mo_heightAt (mo_mix st (Int32.toInt64 (mo_sumAt st x1 (mo_tickBy (nI j))))) x1 (mo_tickBy (nI j))))))
theorem mo_digest_l80_sm {x1 : Int32} : ∀ (n j : Nat) (st : tt_St), mo_sm st (mo_digest_l80 x1 n j st) := by
  intro n
  induction n with
  | zero => intro j st; exact ⟨rfl, rfl⟩
  | succ n ih => intro j st; rw [mo_digest_l80]; exact mo_sm.trans ⟨rfl, rfl⟩ (ih _ _)
set_option maxHeartbeats 4000000 in
set_option maxRecDepth 20000 in
theorem l_mo_digest_80 {α : Type} {G : tt_G} {κ : tt_X α} {T : α} (hC : tt_Cx G κ prog_7_method_77_code "TideTableModel" 3 8 186) (x1 : Int32) (hx : vp_in x1 4) : ∀ (n j : Nat) (st : tt_St), j + n = 6 → mo_ok st → tt_V G κ T (mo_digest_l80 x1 n j st) 120 [(0, .ref (tt_ad G 49)), (1, .int x1)] [] → tt_V G κ T st 80 [(0, .ref (tt_ad G 49)), (1, .int x1), (2, .int (nI j))] [] := by
  intro n
  induction n with
  | zero =>
    intro j st hj hI k
    refine r_iload_n 2 hC d_mo_digest_80 rfl ?_
    refine r_bipush (v := 6) hC d_mo_digest_81 (by decide) ?_
    refine t_icmp_ge (tgt := 120) hC d_mo_digest_83 (by decide) (nI_le (a := 6) (by omega) (by omega)) ?_
    exact tt_cast [0, 1] rfl rfl k
  | succ n ih =>
    intro j st hj hI k
    refine r_iload_n 2 hC d_mo_digest_80 rfl ?_
    refine r_bipush (v := 6) hC d_mo_digest_81 (by decide) ?_
    refine f_icmp_ge (tgt := 120) hC d_mo_digest_83 (by decide) (nI_ge (a := j) (b := 6) (by omega) (by omega)) ?_
    refine r_aload_n 0 hC d_mo_digest_86 rfl ?_
    refine r_aload_n 0 hC d_mo_digest_87 rfl ?_
    refine r_iload_n 1 hC d_mo_digest_88 rfl ?_
    refine r_iload_n 2 hC d_mo_digest_89 rfl ?_
    refine r_callS (rest := [.int x1, .ref (tt_ad G 49), .ref (tt_ad G 49)]) (stk1 := [.int (mo_tickBy (nI j)), .int x1, .ref (tt_ad G 49), .ref (tt_ad G 49)]) hC d_mo_digest_90 (c_mo_tickBy G st (nI j)) mw_mo_tickBy ms_mo_tickBy ml_mo_287 rfl rfl rfl (Nat.le_of_ble_eq_true rfl) rfl ?_
    refine r_callV (o := 49) (rest := [.ref (tt_ad G 49)]) (stk1 := [.int (mo_sumAt st x1 (mo_tickBy (nI j))), .ref (tt_ad G 49)]) hC d_mo_digest_93 (c_mo_sumAt G st x1 (mo_tickBy (nI j)) hI hx) mw_mo_sumAt mi_mo_sumAt mz_mo_sumAt ml_mo_173 rfl rfl rfl rfl rfl (Nat.le_of_ble_eq_true rfl) rfl ?_
    refine r_i2l hC d_mo_digest_96 ?_
    refine r_callV (o := 49) (rest := []) (stk1 := []) hC d_mo_digest_97 (c_mo_mix G st (Int32.toInt64 (mo_sumAt st x1 (mo_tickBy (nI j))))) mw_mo_mix mi_mo_mix mz_mo_mix ml_mo_283 rfl rfl rfl rfl rfl (Nat.le_of_ble_eq_true rfl) rfl ?_
    refine r_aload_n 0 hC d_mo_digest_100 rfl ?_
    refine r_aload_n 0 hC d_mo_digest_101 rfl ?_
    refine r_iload_n 1 hC d_mo_digest_102 rfl ?_
    refine r_iload_n 2 hC d_mo_digest_103 rfl ?_
    refine r_callS (rest := [.int x1, .ref (tt_ad G 49), .ref (tt_ad G 49)]) (stk1 := [.int (mo_tickBy (nI j)), .int x1, .ref (tt_ad G 49), .ref (tt_ad G 49)]) hC d_mo_digest_104 (c_mo_tickBy G (mo_mix st (Int32.toInt64 (mo_sumAt st x1 (mo_tickBy (nI j))))) (nI j)) mw_mo_tickBy ms_mo_tickBy ml_mo_287 rfl rfl rfl (Nat.le_of_ble_eq_true rfl) rfl ?_
    refine r_callV (o := 49) (rest := [.ref (tt_ad G 49)]) (stk1 := [.int (mo_heightAt (mo_mix st (Int32.toInt64 (mo_sumAt st x1 (mo_tickBy (nI j))))) x1 (mo_tickBy (nI j))), .ref (tt_ad G 49)]) hC d_mo_digest_107 (c_mo_heightAt G (mo_mix st (Int32.toInt64 (mo_sumAt st x1 (mo_tickBy (nI j))))) x1 (mo_tickBy (nI j)) hI hx) mw_mo_heightAt mi_mo_heightAt mz_mo_heightAt ml_mo_185 rfl rfl rfl rfl rfl (Nat.le_of_ble_eq_true rfl) rfl ?_
    refine r_i2l hC d_mo_digest_110 ?_
    refine r_callV (o := 49) (rest := []) (stk1 := []) hC d_mo_digest_111 (c_mo_mix G (mo_mix st (Int32.toInt64 (mo_sumAt st x1 (mo_tickBy (nI j))))) (Int32.toInt64 (mo_heightAt (mo_mix st (Int32.toInt64 (mo_sumAt st x1 (mo_tickBy (nI j))))) x1 (mo_tickBy (nI j))))) mw_mo_mix mi_mo_mix mz_mo_mix ml_mo_283 rfl rfl rfl rfl rfl (Nat.le_of_ble_eq_true rfl) rfl ?_
    refine r_iinc 2 (nI (j + 1)) [(2, .int (nI (j + 1))), (0, .ref (tt_ad G 49)), (1, .int x1)] hC d_mo_digest_114 rfl (by rw [nI_succ]; rfl) (by decide) rfl ?_
    refine r_goto (tgt := 80) hC d_mo_digest_117 (by decide) ?_
    exact tt_cast [1, 2, 0] rfl rfl (ih (j + 1) (mo_mix (mo_mix st (Int32.toInt64 (mo_sumAt st x1 (mo_tickBy (nI j))))) (Int32.toInt64 (mo_heightAt (mo_mix st (Int32.toInt64 (mo_sumAt st x1 (mo_tickBy (nI j))))) x1 (mo_tickBy (nI j))))) (by omega) hI (by simpa only [mo_digest_l80] using k))
def mo_digest_l9 (m : Nat) : Nat → Nat → tt_St → tt_St
  | 0, j, st => st
  | n + 1, j, st => (mo_digest_l9 m n (j + 1) (mo_digest_l80 (nI j) 6 0 (mo_digest_l44 (nI j) (Int32.toNatClampNeg (3 * (tt_A (mo_digest_l19 (nI j) 7 0 st) 54 (Int32.toNatClampNeg (nI j))))) (Int32.toNatClampNeg (3 * (tt_A (mo_digest_l19 (nI j) 7 0 st) 54 (Int32.toNatClampNeg (nI j))))) 0 (mo_digest_l19 (nI j) 7 0 st))))
theorem mo_digest_l9_sm {m : Nat} : ∀ (n j : Nat) (st : tt_St), mo_sm st (mo_digest_l9 m n j st) := by
  intro n
  induction n with
  | zero => intro j st; exact ⟨rfl, rfl⟩
  | succ n ih => intro j st; rw [mo_digest_l9]; exact (((mo_digest_l19_sm _ _ _).trans ((mo_digest_l44_sm _ _ _).trans (mo_digest_l80_sm _ _ _)))).trans (ih _ _)
set_option maxHeartbeats 4000000 in
set_option maxRecDepth 20000 in
theorem l_mo_digest_9 {α : Type} {G : tt_G} {κ : tt_X α} {T : α} (hC : tt_Cx G κ prog_7_method_77_code "TideTableModel" 3 8 186) (m : Nat) (hm4 : m ≤ 4) : ∀ (n j : Nat) (st : tt_St), j + n = m → mo_ok st → tt_I st 49 1 = nI m → tt_V G κ T (mo_digest_l9 m n j st) 126 [(0, .ref (tt_ad G 49))] [] → tt_V G κ T st 9 [(0, .ref (tt_ad G 49)), (1, .int (nI j))] [] := by
  intro n
  induction n with
  | zero =>
    intro j st hj hI hb k
    refine r_iload_n 1 hC d_mo_digest_9 rfl ?_
    refine r_aload_n 0 hC d_mo_digest_10 rfl ?_
    refine r_getI hC d_mo_digest_11 fl_mo_138 rfl rfl ?_
    refine t_icmp_ge (tgt := 126) hC d_mo_digest_14 (by decide) (by rw [hb]; exact nI_le (by omega) (by omega)) ?_
    exact tt_cast [0] rfl rfl k
  | succ n ih =>
    intro j st hj hI hb k
    refine r_iload_n 1 hC d_mo_digest_9 rfl ?_
    refine r_aload_n 0 hC d_mo_digest_10 rfl ?_
    refine r_getI hC d_mo_digest_11 fl_mo_138 rfl rfl ?_
    refine f_icmp_ge (tgt := 126) hC d_mo_digest_14 (by decide) (by rw [hb]; exact nI_ge (a := j) (b := m) (by omega) (by omega)) ?_
    refine r_iconst (v := 0) hC d_mo_digest_17 (by decide) ?_
    refine r_istore_n [(2, .int 0), (0, .ref (tt_ad G 49)), (1, .int (nI j))] hC d_mo_digest_18 rfl (by decide) rfl ?_
    refine tt_cast [1, 2, 0] rfl rfl (l_mo_digest_19 hC (nI j) (vp_in_nI (by omega) (by omega)) 7 0 st (by omega) hI ?_)
    refine r_iconst (v := 0) hC d_mo_digest_42 (by decide) ?_
    refine r_istore_n [(2, .int 0), (0, .ref (tt_ad G 49)), (1, .int (nI j))] hC d_mo_digest_43 rfl (by decide) rfl ?_
    refine tt_cast [1, 2, 0] rfl rfl (l_mo_digest_44 hC (nI j) (Int32.toNatClampNeg (3 * (tt_A (mo_digest_l19 (nI j) 7 0 st) 54 (Int32.toNatClampNeg (nI j))))) (vp_in_nI (by omega) (by omega)) (tt_cle (mo_3w ((mo_digest_l19_sm _ _ _).ok hI) (vp_in_nI (by omega) (by omega))).2) (Int32.toNatClampNeg (3 * (tt_A (mo_digest_l19 (nI j) 7 0 st) 54 (Int32.toNatClampNeg (nI j))))) 0 (mo_digest_l19 (nI j) 7 0 st) (by omega) ((mo_digest_l19_sm _ _ _).ok hI) (tt_nIc (mo_3w ((mo_digest_l19_sm _ _ _).ok hI) (vp_in_nI (by omega) (by omega))).1).symm ?_)
    refine r_iconst (v := 0) hC d_mo_digest_78 (by decide) ?_
    refine r_istore_n [(2, .int 0), (0, .ref (tt_ad G 49)), (1, .int (nI j))] hC d_mo_digest_79 rfl (by decide) rfl ?_
    refine tt_cast [1, 2, 0] rfl rfl (l_mo_digest_80 hC (nI j) (vp_in_nI (by omega) (by omega)) 6 0 (mo_digest_l44 (nI j) (Int32.toNatClampNeg (3 * (tt_A (mo_digest_l19 (nI j) 7 0 st) 54 (Int32.toNatClampNeg (nI j))))) (Int32.toNatClampNeg (3 * (tt_A (mo_digest_l19 (nI j) 7 0 st) 54 (Int32.toNatClampNeg (nI j))))) 0 (mo_digest_l19 (nI j) 7 0 st)) (by omega) ((mo_digest_l44_sm _ _ _).ok ((mo_digest_l19_sm _ _ _).ok hI)) ?_)
    refine r_iinc 1 (nI (j + 1)) [(1, .int (nI (j + 1))), (0, .ref (tt_ad G 49))] hC d_mo_digest_120 rfl (by rw [nI_succ]; rfl) (by decide) rfl ?_
    refine r_goto (tgt := 9) hC d_mo_digest_123 (by decide) ?_
    exact tt_cast [1, 0] rfl rfl (ih (j + 1) (mo_digest_l80 (nI j) 6 0 (mo_digest_l44 (nI j) (Int32.toNatClampNeg (3 * (tt_A (mo_digest_l19 (nI j) 7 0 st) 54 (Int32.toNatClampNeg (nI j))))) (Int32.toNatClampNeg (3 * (tt_A (mo_digest_l19 (nI j) 7 0 st) 54 (Int32.toNatClampNeg (nI j))))) 0 (mo_digest_l19 (nI j) 7 0 st))) (by omega) (((mo_digest_l19_sm _ _ _).trans ((mo_digest_l44_sm _ _ _).trans (mo_digest_l80_sm _ _ _))).ok hI) (by rw [(((mo_digest_l19_sm _ _ _).trans ((mo_digest_l44_sm _ _ _).trans (mo_digest_l80_sm _ _ _)))).I]; exact hb) (by simpa only [mo_digest_l9] using k))
def mo_digest_l128 (m : Nat) : Nat → Nat → tt_St → tt_St
  | 0, j, st => st
  | n + 1, j, st => (mo_digest_l128 m n (j + 1) (mo_mix st (Int32.toInt64 (tt_A st 60 (Int32.toNatClampNeg (nI j))))))
theorem mo_digest_l128_sm {m : Nat} : ∀ (n j : Nat) (st : tt_St), mo_sm st (mo_digest_l128 m n j st) := by
  intro n
  induction n with
  | zero => intro j st; exact ⟨rfl, rfl⟩
  | succ n ih => intro j st; rw [mo_digest_l128]; exact mo_sm.trans ⟨rfl, rfl⟩ (ih _ _)
set_option maxHeartbeats 4000000 in
set_option maxRecDepth 20000 in
theorem l_mo_digest_128 {α : Type} {G : tt_G} {κ : tt_X α} {T : α} (hC : tt_Cx G κ prog_7_method_77_code "TideTableModel" 3 8 186) (m : Nat) (hm4 : m ≤ 96) : ∀ (n j : Nat) (st : tt_St), j + n = m → mo_ok st → tt_I st 49 13 = nI m → tt_V G κ T (mo_digest_l128 m n j st) 153 [(0, .ref (tt_ad G 49))] [] → tt_V G κ T st 128 [(0, .ref (tt_ad G 49)), (1, .int (nI j))] [] := by
  intro n
  induction n with
  | zero =>
    intro j st hj hI hb k
    refine r_iload_n 1 hC d_mo_digest_128 rfl ?_
    refine r_aload_n 0 hC d_mo_digest_129 rfl ?_
    refine r_getI hC d_mo_digest_130 fl_mo_97 rfl rfl ?_
    refine t_icmp_ge (tgt := 153) hC d_mo_digest_133 (by decide) (by rw [hb]; exact nI_le (by omega) (by omega)) ?_
    exact tt_cast [0] rfl rfl k
  | succ n ih =>
    intro j st hj hI hb k
    refine r_iload_n 1 hC d_mo_digest_128 rfl ?_
    refine r_aload_n 0 hC d_mo_digest_129 rfl ?_
    refine r_getI hC d_mo_digest_130 fl_mo_97 rfl rfl ?_
    refine f_icmp_ge (tgt := 153) hC d_mo_digest_133 (by decide) (by rw [hb]; exact nI_ge (a := j) (b := m) (by omega) (by omega)) ?_
    refine r_aload_n 0 hC d_mo_digest_136 rfl ?_
    refine r_aload_n 0 hC d_mo_digest_137 rfl ?_
    refine r_getR (r := 60) hC d_mo_digest_138 fl_mo_40 rfl rfl rfl ?_
    refine r_iload_n 1 hC d_mo_digest_141 rfl ?_
    refine r_bald (n := 96) hC d_mo_digest_142 rfl (by decide) rfl rfl (vp_in_nI (by omega) (by omega)) ?_
    refine r_i2l hC d_mo_digest_143 ?_
    refine r_callV (o := 49) (rest := []) (stk1 := []) hC d_mo_digest_144 (c_mo_mix G st (Int32.toInt64 (tt_A st 60 (Int32.toNatClampNeg (nI j))))) mw_mo_mix mi_mo_mix mz_mo_mix ml_mo_283 rfl rfl rfl rfl rfl (Nat.le_of_ble_eq_true rfl) rfl ?_
    refine r_iinc 1 (nI (j + 1)) [(1, .int (nI (j + 1))), (0, .ref (tt_ad G 49))] hC d_mo_digest_147 rfl (by rw [nI_succ]; rfl) (by decide) rfl ?_
    refine r_goto (tgt := 128) hC d_mo_digest_150 (by decide) ?_
    exact tt_cast [1, 0] rfl rfl (ih (j + 1) (mo_mix st (Int32.toInt64 (tt_A st 60 (Int32.toNatClampNeg (nI j))))) (by omega) hI hb (by simpa only [mo_digest_l128] using k))
def mo_digest_l155  : Nat → Nat → tt_St → tt_St
  | 0, j, st => st
  | n + 1, j, st => (mo_digest_l155 n (j + 1) (mo_mix st (Int32.toInt64 (mo_howMany st (nI j)))))
set_option maxHeartbeats 4000000 in
set_option maxRecDepth 20000 in
theorem l_mo_digest_155 {α : Type} {G : tt_G} {κ : tt_X α} {T : α} (hC : tt_Cx G κ prog_7_method_77_code "TideTableModel" 3 8 186)   : ∀ (n j : Nat) (st : tt_St), j + n = 7 → mo_ok st → tt_V G κ T (mo_digest_l155 n j st) 177 [(0, .ref (tt_ad G 49))] [] → tt_V G κ T st 155 [(0, .ref (tt_ad G 49)), (1, .int (nI j))] [] := by
  intro n
  induction n with
  | zero =>
    intro j st hj hI k
    refine r_iload_n 1 hC d_mo_digest_155 rfl ?_
    refine r_bipush (v := 7) hC d_mo_digest_156 (by decide) ?_
    refine t_icmp_ge (tgt := 177) hC d_mo_digest_158 (by decide) (nI_le (a := 7) (by omega) (by omega)) ?_
    exact tt_cast [0] rfl rfl k
  | succ n ih =>
    intro j st hj hI k
    refine r_iload_n 1 hC d_mo_digest_155 rfl ?_
    refine r_bipush (v := 7) hC d_mo_digest_156 (by decide) ?_
    refine f_icmp_ge (tgt := 177) hC d_mo_digest_158 (by decide) (nI_ge (a := j) (b := 7) (by omega) (by omega)) ?_
    refine r_aload_n 0 hC d_mo_digest_161 rfl ?_
    refine r_aload_n 0 hC d_mo_digest_162 rfl ?_
    refine r_iload_n 1 hC d_mo_digest_163 rfl ?_
    refine r_callV (o := 49) (rest := [.ref (tt_ad G 49)]) (stk1 := [.int (mo_howMany st (nI j)), .ref (tt_ad G 49)]) hC d_mo_digest_164 (c_mo_howMany G st (nI j) hI) mw_mo_howMany mi_mo_howMany mz_mo_howMany ml_mo_273 rfl rfl rfl rfl rfl (Nat.le_of_ble_eq_true rfl) rfl ?_
    refine r_i2l hC d_mo_digest_167 ?_
    refine r_callV (o := 49) (rest := []) (stk1 := []) hC d_mo_digest_168 (c_mo_mix G st (Int32.toInt64 (mo_howMany st (nI j)))) mw_mo_mix mi_mo_mix mz_mo_mix ml_mo_283 rfl rfl rfl rfl rfl (Nat.le_of_ble_eq_true rfl) rfl ?_
    refine r_iinc 1 (nI (j + 1)) [(1, .int (nI (j + 1))), (0, .ref (tt_ad G 49))] hC d_mo_digest_171 rfl (by rw [nI_succ]; rfl) (by decide) rfl ?_
    refine r_goto (tgt := 155) hC d_mo_digest_174 (by decide) ?_
    exact tt_cast [1, 0] rfl rfl (ih (j + 1) (mo_mix st (Int32.toInt64 (mo_howMany st (nI j)))) (by omega) hI (by simpa only [mo_digest_l155] using k))
def mo_digest (st : tt_St) : Int64 × tt_St := ((tt_L (mo_digest_l155 7 0 (mo_digest_l128 (Int32.toNatClampNeg (tt_I (mo_digest_l9 (Int32.toNatClampNeg (tt_I st 49 1)) (Int32.toNatClampNeg (tt_I st 49 1)) 0 (tt_pL st 49 38 1423)) 49 13)) (Int32.toNatClampNeg (tt_I (mo_digest_l9 (Int32.toNatClampNeg (tt_I st 49 1)) (Int32.toNatClampNeg (tt_I st 49 1)) 0 (tt_pL st 49 38 1423)) 49 13)) 0 (mo_digest_l9 (Int32.toNatClampNeg (tt_I st 49 1)) (Int32.toNatClampNeg (tt_I st 49 1)) 0 (tt_pL st 49 38 1423)))) 49 38), (mo_digest_l155 7 0 (mo_digest_l128 (Int32.toNatClampNeg (tt_I (mo_digest_l9 (Int32.toNatClampNeg (tt_I st 49 1)) (Int32.toNatClampNeg (tt_I st 49 1)) 0 (tt_pL st 49 38 1423)) 49 13)) (Int32.toNatClampNeg (tt_I (mo_digest_l9 (Int32.toNatClampNeg (tt_I st 49 1)) (Int32.toNatClampNeg (tt_I st 49 1)) 0 (tt_pL st 49 38 1423)) 49 13)) 0 (mo_digest_l9 (Int32.toNatClampNeg (tt_I st 49 1)) (Int32.toNatClampNeg (tt_I st 49 1)) 0 (tt_pL st 49 38 1423)))))
set_option maxHeartbeats 4000000 in
set_option maxRecDepth 20000 in
theorem c_mo_digest (G : tt_G) (st : tt_St)  (hI : mo_ok st) : tt_C y_mo_digest prog_7_method_77_code 3 (some .long) 8 186 G [.ref (tt_ad G 49)] st (some (.long (mo_digest st).1)) (mo_digest st).2 := by
  refine tt_enter_sl (T := (mo_digest st)) (by decide +kernel) (Nat.le_of_ble_eq_true rfl) (fun κ hC hR => ?_)
  rw [mo_digest]
  refine r_aload_n 0 hC d_mo_digest_0 rfl ?_
  refine r_ldc2 hC d_mo_digest_1 k_mo_281 ?_
  refine r_putL hC d_mo_digest_4 fl_mo_278 fp_5_38 rfl rfl ?_
  refine r_iconst (v := 0) hC d_mo_digest_7 (by decide) ?_
  refine r_istore_n [(1, .int 0), (0, .ref (tt_ad G 49))] hC d_mo_digest_8 rfl (by decide) rfl ?_
  refine tt_cast [1, 0] rfl rfl (l_mo_digest_9 hC (Int32.toNatClampNeg (tt_I st 49 1)) (tt_cle hI.1.2) (Int32.toNatClampNeg (tt_I st 49 1)) 0 (tt_pL st 49 38 1423) (by omega) hI (tt_nIc hI.1.1).symm ?_)
  refine r_iconst (v := 0) hC d_mo_digest_126 (by decide) ?_
  refine r_istore_n [(1, .int 0), (0, .ref (tt_ad G 49))] hC d_mo_digest_127 rfl (by decide) rfl ?_
  refine tt_cast [1, 0] rfl rfl (l_mo_digest_128 hC (Int32.toNatClampNeg (tt_I (mo_digest_l9 (Int32.toNatClampNeg (tt_I st 49 1)) (Int32.toNatClampNeg (tt_I st 49 1)) 0 (tt_pL st 49 38 1423)) 49 13)) (tt_cle ((mo_sm.trans (b := tt_pL st 49 38 1423) ⟨rfl, rfl⟩ (mo_digest_l9_sm _ _ _)).ok hI).2.2.1.2) (Int32.toNatClampNeg (tt_I (mo_digest_l9 (Int32.toNatClampNeg (tt_I st 49 1)) (Int32.toNatClampNeg (tt_I st 49 1)) 0 (tt_pL st 49 38 1423)) 49 13)) 0 (mo_digest_l9 (Int32.toNatClampNeg (tt_I st 49 1)) (Int32.toNatClampNeg (tt_I st 49 1)) 0 (tt_pL st 49 38 1423)) (by omega) ((mo_sm.trans (b := tt_pL st 49 38 1423) ⟨rfl, rfl⟩ (mo_digest_l9_sm _ _ _)).ok hI) (tt_nIc ((mo_sm.trans (b := tt_pL st 49 38 1423) ⟨rfl, rfl⟩ (mo_digest_l9_sm _ _ _)).ok hI).2.2.1.1).symm ?_)
  refine r_iconst (v := 0) hC d_mo_digest_153 (by decide) ?_
  refine r_istore_n [(1, .int 0), (0, .ref (tt_ad G 49))] hC d_mo_digest_154 rfl (by decide) rfl ?_
  refine tt_cast [1, 0] rfl rfl (l_mo_digest_155 hC   7 0 (mo_digest_l128 (Int32.toNatClampNeg (tt_I (mo_digest_l9 (Int32.toNatClampNeg (tt_I st 49 1)) (Int32.toNatClampNeg (tt_I st 49 1)) 0 (tt_pL st 49 38 1423)) 49 13)) (Int32.toNatClampNeg (tt_I (mo_digest_l9 (Int32.toNatClampNeg (tt_I st 49 1)) (Int32.toNatClampNeg (tt_I st 49 1)) 0 (tt_pL st 49 38 1423)) 49 13)) 0 (mo_digest_l9 (Int32.toNatClampNeg (tt_I st 49 1)) (Int32.toNatClampNeg (tt_I st 49 1)) 0 (tt_pL st 49 38 1423))) (by omega) ((mo_digest_l128_sm _ _ _).ok ((mo_sm.trans (b := tt_pL st 49 38 1423) ⟨rfl, rfl⟩ (mo_digest_l9_sm _ _ _)).ok hI)) ?_)
  refine r_aload_n 0 hC d_mo_digest_177 rfl ?_
  refine r_getL hC d_mo_digest_178 fl_mo_278 rfl rfl ?_
  exact r_lret_sl hC hR d_mo_digest_181

/-! TideTableModel.tideNow(IIII)I -/
def mo_tideNow_l10 (st : tt_St) (a1 : Int32) (a2 : Int32) (a3 : Int32) (a4 : Int32) : Nat → Nat → Int32 → Int32
  | 0, j, x5 => (-10101)
  | n + 1, j, x5 => (if a3 < 0 then (-10101) else (if (mo_turnsAt st a1 ((144 * a2) + nI j)) = (-10001) then (mo_tideNow_l10 st a1 a2 a3 a4 n (j + 1) (x5 - (if (mo_turnsAt st a1 ((144 * a2) + nI j)) = (-10001) then 0 else 1 : Int32))) else (if x5 = 0 then (if a4 = 0 then ((144 * a2) + nI j) else (if a4 = 1 then (mo_turnsAt st a1 ((144 * a2) + nI j)) else (mo_heightAt st a1 ((144 * a2) + nI j)))) else (mo_tideNow_l10 st a1 a2 a3 a4 n (j + 1) (x5 - (if (mo_turnsAt st a1 ((144 * a2) + nI j)) = (-10001) then 0 else 1 : Int32))))))
set_option maxHeartbeats 4000000 in
set_option maxRecDepth 20000 in
theorem l_mo_tideNow_10 {G : tt_G} {κ : tt_X (Int32)} (hC : tt_Cx G κ prog_7_method_40_code "TideTableModel" 8 8 190) (st : tt_St) (a1 : Int32) (a2 : Int32) (a3 : Int32) (a4 : Int32)  (hR : tt_Rt G κ (some .int) (fun r => (some (.int r), st))) (hI : mo_ok st) (hp : vp_in a1 4) (hd : vp_in a2 10) : ∀ (n j : Nat) (x5 : Int32), j + n = 144 → tt_V G κ (mo_tideNow_l10 st a1 a2 a3 a4 n j x5) st 10 [(0, .ref (tt_ad G 49)), (1, .int a1), (2, .int a2), (3, .int a3), (4, .int a4), (5, .int x5), (6, .int ((144 * a2) + nI j))] [] := by
  intro n
  induction n with
  | zero =>
    intro j x5 hj
    rw [mo_tideNow_l10]
    refine r_iload 6 hC d_mo_tideNow_10 rfl ?_
    refine r_sipush (v := 144) hC d_mo_tideNow_12 (by decide) ?_
    refine r_iload_n 2 hC d_mo_tideNow_15 rfl ?_
    refine r_iconst (v := 1) hC d_mo_tideNow_16 (by decide) ?_
    refine r_iadd hC d_mo_tideNow_17 ?_
    refine r_imul hC d_mo_tideNow_18 ?_
    refine t_icmp_ge (tgt := 101) hC d_mo_tideNow_19 (by decide) (tt_dayE hd (by omega) (by omega)) ?_
    refine r_sipush (v := (-10101)) hC d_mo_tideNow_101 (by decide) ?_
    exact r_iret hC hR d_mo_tideNow_104 rfl rfl
  | succ n ih =>
    intro j x5 hj
    rw [mo_tideNow_l10]
    refine r_iload 6 hC d_mo_tideNow_10 rfl ?_
    refine r_sipush (v := 144) hC d_mo_tideNow_12 (by decide) ?_
    refine r_iload_n 2 hC d_mo_tideNow_15 rfl ?_
    refine r_iconst (v := 1) hC d_mo_tideNow_16 (by decide) ?_
    refine r_iadd hC d_mo_tideNow_17 ?_
    refine r_imul hC d_mo_tideNow_18 ?_
    refine f_icmp_ge (tgt := 101) hC d_mo_tideNow_19 (by decide) (tt_dayS hd (by omega)) ?_
    refine r_iload_n 3 hC d_mo_tideNow_22 rfl ?_
    refine r_if_lt (tgt := 101) hC d_mo_tideNow_23 (by decide) (fun c_23 => ?_) (fun c_23 => ?_)
    ·
      refine r_sipush (v := (-10101)) hC d_mo_tideNow_101 (by decide) ?_
      exact r_iret hC hR d_mo_tideNow_104 rfl rfl
    ·
      refine r_aload_n 0 hC d_mo_tideNow_26 rfl ?_
      refine r_iload_n 1 hC d_mo_tideNow_27 rfl ?_
      refine r_iload 6 hC d_mo_tideNow_28 rfl ?_
      refine r_callV (o := 49) (rest := []) (stk1 := [.int (mo_turnsAt st a1 ((144 * a2) + nI j))]) hC d_mo_tideNow_30 (c_mo_turnsAt G st a1 ((144 * a2) + nI j) hI hp) mw_mo_turnsAt mi_mo_turnsAt mz_mo_turnsAt ml_mo_191 rfl rfl rfl rfl rfl (Nat.le_of_ble_eq_true rfl) rfl ?_
      refine r_istore [(7, .int (mo_turnsAt st a1 ((144 * a2) + nI j))), (0, .ref (tt_ad G 49)), (1, .int a1), (2, .int a2), (3, .int a3), (4, .int a4), (5, .int x5), (6, .int ((144 * a2) + nI j))] hC d_mo_tideNow_33 (by decide) rfl ?_
      refine r_iload 0 hC d_mo_tideNow_35 rfl ?_
      refine r_sipush (v := (-10001)) hC d_mo_tideNow_37 (by decide) ?_
      refine r_icmp_eq (tgt := 77) hC d_mo_tideNow_40 (by decide) (fun c_40 => ?_) (fun c_40 => ?_)
      ·
        refine r_iload 6 hC d_mo_tideNow_77 rfl ?_
        refine r_iload 0 hC d_mo_tideNow_79 rfl ?_
        refine r_sipush (v := (-10001)) hC d_mo_tideNow_81 (by decide) ?_
        refine tt_join 92 [(0, .ref (tt_ad G 49)), (1, .int a1), (2, .int a2), (3, .int a3), (4, .int a4), (6, .int ((144 * a2) + nI j))] [.int (if (mo_turnsAt st a1 ((144 * a2) + nI j)) = (-10001) then 0 else 1 : Int32), .int x5] ?_ (fun kj_84 => ?_)
        ·
          refine r_isub hC d_mo_tideNow_92 ?_
          refine r_istore [(5, .int (x5 - (if (mo_turnsAt st a1 ((144 * a2) + nI j)) = (-10001) then 0 else 1 : Int32))), (0, .ref (tt_ad G 49)), (1, .int a1), (2, .int a2), (3, .int a3), (4, .int a4), (6, .int ((144 * a2) + nI j))] hC d_mo_tideNow_93 (by decide) rfl ?_
          refine r_iinc 6 ((144 * a2) + nI (j + 1)) [(6, .int ((144 * a2) + nI (j + 1))), (5, .int (x5 - (if (mo_turnsAt st a1 ((144 * a2) + nI j)) = (-10001) then 0 else 1 : Int32))), (0, .ref (tt_ad G 49)), (1, .int a1), (2, .int a2), (3, .int a3), (4, .int a4)] hC d_mo_tideNow_95 rfl (by rw [nI_succ, ← Int32.add_assoc]; rfl) (by decide) rfl ?_
          refine r_goto (tgt := 10) hC d_mo_tideNow_98 (by decide) ?_
          exact tt_cast [2, 3, 4, 5, 6, 1, 0] rfl rfl (ih (j + 1) (x5 - (if (mo_turnsAt st a1 ((144 * a2) + nI j)) = (-10001) then 0 else 1 : Int32)) (by omega))
        ·
          refine j_icmp_eq (tgt := 91) hC d_mo_tideNow_84 (by decide) (fun c_84 => ?_) (fun c_84 => ?_)
          ·
            refine r_iconst (v := 0) hC d_mo_tideNow_91 (by decide) ?_
            exact tt_cast [1, 2, 3, 4, 5, 7] rfl (by simp only [if_pos c_84]) kj_84
          ·
            refine r_iconst (v := 1) hC d_mo_tideNow_87 (by decide) ?_
            refine r_goto (tgt := 92) hC d_mo_tideNow_88 (by decide) ?_
            exact tt_cast [1, 2, 3, 4, 5, 7] rfl (by simp only [if_neg c_84]) kj_84
      ·
        refine r_iload 6 hC d_mo_tideNow_43 rfl ?_
        refine r_if_ne (tgt := 77) hC d_mo_tideNow_45 (by decide) (fun c_45 => ?_) (fun c_45 => ?_)
        ·
          refine r_iload 6 hC d_mo_tideNow_77 rfl ?_
          refine r_iload 0 hC d_mo_tideNow_79 rfl ?_
          refine r_sipush (v := (-10001)) hC d_mo_tideNow_81 (by decide) ?_
          refine tt_join 92 [(0, .ref (tt_ad G 49)), (1, .int a1), (2, .int a2), (3, .int a3), (4, .int a4), (6, .int ((144 * a2) + nI j))] [.int (if (mo_turnsAt st a1 ((144 * a2) + nI j)) = (-10001) then 0 else 1 : Int32), .int x5] ?_ (fun kj_84 => ?_)
          ·
            refine r_isub hC d_mo_tideNow_92 ?_
            refine r_istore [(5, .int (x5 - (if (mo_turnsAt st a1 ((144 * a2) + nI j)) = (-10001) then 0 else 1 : Int32))), (0, .ref (tt_ad G 49)), (1, .int a1), (2, .int a2), (3, .int a3), (4, .int a4), (6, .int ((144 * a2) + nI j))] hC d_mo_tideNow_93 (by decide) rfl ?_
            refine r_iinc 6 ((144 * a2) + nI (j + 1)) [(6, .int ((144 * a2) + nI (j + 1))), (5, .int (x5 - (if (mo_turnsAt st a1 ((144 * a2) + nI j)) = (-10001) then 0 else 1 : Int32))), (0, .ref (tt_ad G 49)), (1, .int a1), (2, .int a2), (3, .int a3), (4, .int a4)] hC d_mo_tideNow_95 rfl (by rw [nI_succ, ← Int32.add_assoc]; rfl) (by decide) rfl ?_
            refine r_goto (tgt := 10) hC d_mo_tideNow_98 (by decide) ?_
            exact tt_cast [2, 3, 4, 5, 6, 1, 0] rfl rfl (ih (j + 1) (x5 - (if (mo_turnsAt st a1 ((144 * a2) + nI j)) = (-10001) then 0 else 1 : Int32)) (by omega))
          ·
            refine j_icmp_eq (tgt := 91) hC d_mo_tideNow_84 (by decide) (fun c_84 => ?_) (fun c_84 => ?_)
            ·
              refine r_iconst (v := 0) hC d_mo_tideNow_91 (by decide) ?_
              exact tt_cast [1, 2, 3, 4, 5, 7] rfl (by simp only [if_pos c_84]) kj_84
            ·
              refine r_iconst (v := 1) hC d_mo_tideNow_87 (by decide) ?_
              refine r_goto (tgt := 92) hC d_mo_tideNow_88 (by decide) ?_
              exact tt_cast [1, 2, 3, 4, 5, 7] rfl (by simp only [if_neg c_84]) kj_84
        ·
          refine r_iload 5 hC d_mo_tideNow_48 rfl ?_
          refine r_if_ne (tgt := 58) hC d_mo_tideNow_50 (by decide) (fun c_50 => ?_) (fun c_50 => ?_)
          ·
            refine r_iload 5 hC d_mo_tideNow_58 rfl ?_
            refine r_iconst (v := 1) hC d_mo_tideNow_60 (by decide) ?_
            refine r_icmp_ne (tgt := 69) hC d_mo_tideNow_61 (by decide) (fun c_61 => ?_) (fun c_61 => ?_)
            ·
              refine r_aload_n 1 hC d_mo_tideNow_69 rfl ?_
              refine r_iload_n 2 hC d_mo_tideNow_70 rfl ?_
              refine r_iload 7 hC d_mo_tideNow_71 rfl ?_
              refine r_callV (o := 49) (rest := []) (stk1 := [.int (mo_heightAt st a1 ((144 * a2) + nI j))]) hC d_mo_tideNow_73 (c_mo_heightAt G st a1 ((144 * a2) + nI j) hI hp) mw_mo_heightAt mi_mo_heightAt mz_mo_heightAt ml_mo_185 rfl rfl rfl rfl rfl (Nat.le_of_ble_eq_true rfl) rfl ?_
              exact r_iret hC hR d_mo_tideNow_76 rfl rfl
            ·
              refine r_iload 0 hC d_mo_tideNow_64 rfl ?_
              refine r_goto (tgt := 76) hC d_mo_tideNow_66 (by decide) ?_
              exact r_iret hC hR d_mo_tideNow_76 rfl rfl
          ·
            refine r_iload 7 hC d_mo_tideNow_53 rfl ?_
            refine r_goto (tgt := 76) hC d_mo_tideNow_55 (by decide) ?_
            exact r_iret hC hR d_mo_tideNow_76 rfl rfl
def mo_tideNow (st : tt_St) (a1 : Int32) (a2 : Int32) (a3 : Int32) (a4 : Int32) : Int32 := (mo_tideNow_l10 st a1 a2 a3 a4 144 0 a3)
set_option maxHeartbeats 4000000 in
set_option maxRecDepth 20000 in
theorem c_mo_tideNow (G : tt_G) (st : tt_St) (a1 : Int32) (a2 : Int32) (a3 : Int32) (a4 : Int32) (hI : mo_ok st) (hp : vp_in a1 4) (hd : vp_in a2 10) : tt_C y_mo_tideNow prog_7_method_40_code 8 (some .int) 8 190 G [.ref (tt_ad G 49), .int a1, .int a2, .int a3, .int a4] st (some (.int (mo_tideNow st a1 a2 a3 a4))) st := by
  refine tt_enter (α := Int32) (mk := fun r => (some (.int r), st)) (T := (mo_tideNow st a1 a2 a3 a4)) (by decide +kernel) (Nat.le_of_ble_eq_true rfl) (fun κ hC hR => ?_)
  rw [mo_tideNow]
  refine r_iload_n 3 hC d_mo_tideNow_0 rfl ?_
  refine r_istore [(5, .int a3), (0, .ref (tt_ad G 49)), (1, .int a1), (2, .int a2), (3, .int a3), (4, .int a4)] hC d_mo_tideNow_1 (by decide) rfl ?_
  refine r_sipush (v := 144) hC d_mo_tideNow_3 (by decide) ?_
  refine r_iload_n 3 hC d_mo_tideNow_6 rfl ?_
  refine r_imul hC d_mo_tideNow_7 ?_
  refine r_istore [(6, .int (144 * a2)), (5, .int a3), (0, .ref (tt_ad G 49)), (1, .int a1), (2, .int a2), (3, .int a3), (4, .int a4)] hC d_mo_tideNow_8 (by decide) rfl ?_
  exact tt_cast [2, 3, 4, 5, 6, 1, 0] (by simp only [nI_0, Int32.add_zero]; rfl) rfl (l_mo_tideNow_10 hC st a1 a2 a3 a4 hR hI hp hd 144 0 a3 (by omega))
/-! TideTableModel.tide(IIII)I -/
def mo_tide (st : tt_St) (a1 : Int32) (a2 : Int32) (a3 : Int32) (a4 : Int32) : Int32 := (if (mo_isPort st a1) = 0 then (-10101) else (if (mo_isDay a2) = 0 then (-10102) else (if (mo_tideNow st a1 a2 a3 0) = (-10101) then (-10101) else (if (mo_within a4 0 2) = 0 then (-10102) else (mo_tideNow st a1 a2 a3 a4)))))
set_option maxHeartbeats 4000000 in
set_option maxRecDepth 20000 in
theorem c_mo_tide (G : tt_G) (st : tt_St) (a1 : Int32) (a2 : Int32) (a3 : Int32) (a4 : Int32) (hI : mo_ok st) : tt_C y_mo_tide prog_7_method_41_code 5 (some .int) 9 217 G [.ref (tt_ad G 49), .int a1, .int a2, .int a3, .int a4] st (some (.int (mo_tide st a1 a2 a3 a4))) st := by
  refine tt_enter (α := Int32) (mk := fun r => (some (.int r), st)) (T := (mo_tide st a1 a2 a3 a4)) (by decide +kernel) (Nat.le_of_ble_eq_true rfl) (fun κ hC hR => ?_)
  rw [mo_tide]
  refine r_aload_n 0 hC d_mo_tide_0 rfl ?_
  refine r_iload_n 1 hC d_mo_tide_1 rfl ?_
  refine r_callV (o := 49) (rest := []) (stk1 := [.int (mo_isPort st a1)]) hC d_mo_tide_2 (c_mo_isPort G st a1) mw_mo_isPort mi_mo_isPort mz_mo_isPort ml_mo_147 rfl rfl rfl rfl rfl (Nat.le_of_ble_eq_true rfl) rfl ?_
  refine r_if_ne (tgt := 12) hC d_mo_tide_5 (by decide) (fun c_5 => ?_) (fun c_5 => ?_)
  ·
    refine r_iload_n 2 hC d_mo_tide_12 rfl ?_
    refine r_callS (rest := []) (stk1 := [.int (mo_isDay a2)]) hC d_mo_tide_13 (c_mo_isDay G st a2) mw_mo_isDay ms_mo_isDay ml_mo_194 rfl rfl rfl (Nat.le_of_ble_eq_true rfl) rfl ?_
    refine r_if_ne (tgt := 23) hC d_mo_tide_16 (by decide) (fun c_16 => ?_) (fun c_16 => ?_)
    ·
      refine r_aload_n 0 hC d_mo_tide_23 rfl ?_
      refine r_iload_n 1 hC d_mo_tide_24 rfl ?_
      refine r_iload_n 2 hC d_mo_tide_25 rfl ?_
      refine r_iload_n 3 hC d_mo_tide_26 rfl ?_
      refine r_iconst (v := 0) hC d_mo_tide_27 (by decide) ?_
      refine r_callV (o := 49) (rest := []) (stk1 := [.int (mo_tideNow st a1 a2 a3 0)]) hC d_mo_tide_28 (c_mo_tideNow G st a1 a2 a3 0 hI (mo_isPort_in hI c_5) (mo_isDay_in c_16)) mw_mo_tideNow mi_mo_tideNow mz_mo_tideNow ml_mo_197 rfl rfl rfl rfl rfl (Nat.le_of_ble_eq_true rfl) rfl ?_
      refine r_sipush (v := (-10101)) hC d_mo_tide_31 (by decide) ?_
      refine r_icmp_ne (tgt := 43) hC d_mo_tide_34 (by decide) (fun c_34 => ?_) (fun c_34 => ?_)
      ·
        refine r_iload 4 hC d_mo_tide_43 rfl ?_
        refine r_iconst (v := 0) hC d_mo_tide_45 (by decide) ?_
        refine r_iconst (v := 2) hC d_mo_tide_46 (by decide) ?_
        refine r_callS (rest := []) (stk1 := [.int (mo_within a4 0 2)]) hC d_mo_tide_47 (c_mo_within G st a4 0 2) mw_mo_within ms_mo_within ml_mo_93 rfl rfl rfl (Nat.le_of_ble_eq_true rfl) rfl ?_
        refine r_if_eq (tgt := 65) hC d_mo_tide_50 (by decide) (fun c_50 => ?_) (fun c_50 => ?_)
        ·
          refine r_sipush (v := (-10102)) hC d_mo_tide_65 (by decide) ?_
          exact r_iret hC hR d_mo_tide_68 rfl rfl
        ·
          refine r_aload_n 0 hC d_mo_tide_53 rfl ?_
          refine r_iload_n 1 hC d_mo_tide_54 rfl ?_
          refine r_iload_n 2 hC d_mo_tide_55 rfl ?_
          refine r_iload_n 3 hC d_mo_tide_56 rfl ?_
          refine r_iload 4 hC d_mo_tide_57 rfl ?_
          refine r_callV (o := 49) (rest := []) (stk1 := [.int (mo_tideNow st a1 a2 a3 a4)]) hC d_mo_tide_59 (c_mo_tideNow G st a1 a2 a3 a4 hI (mo_isPort_in hI c_5) (mo_isDay_in c_16)) mw_mo_tideNow mi_mo_tideNow mz_mo_tideNow ml_mo_197 rfl rfl rfl rfl rfl (Nat.le_of_ble_eq_true rfl) rfl ?_
          refine r_goto (tgt := 68) hC d_mo_tide_62 (by decide) ?_
          exact r_iret hC hR d_mo_tide_68 rfl rfl
      ·
        refine r_sipush (v := (-10101)) hC d_mo_tide_37 (by decide) ?_
        refine r_goto (tgt := 68) hC d_mo_tide_40 (by decide) ?_
        exact r_iret hC hR d_mo_tide_68 rfl rfl
    ·
      refine r_sipush (v := (-10102)) hC d_mo_tide_19 (by decide) ?_
      exact r_iret hC hR d_mo_tide_22 rfl rfl
  ·
    refine r_sipush (v := (-10101)) hC d_mo_tide_8 (by decide) ?_
    exact r_iret hC hR d_mo_tide_11 rfl rfl
/-! TideTableModel.gateNow(IIIII)I -/
def mo_gateNow_l23 (st : tt_St) (a1 : Int32) (a2 : Int32) (a3 : Int32) (a4 : Int32) (a5 : Int32) : Nat → Nat → Int32 → Int32 → Int32 → Int32 → Int32 × Int32 × Int32 × Int32
  | 0, j, x6, x7, x8, x9 => (x6, x7, x8, x9)
  | n + 1, j, x6, x7, x8, x9 => (mo_gateNow_l23 st a1 a2 a3 a4 a5 n (j + 1) (x6 + (if (if (mo_heightAt st a1 ((144 * a2) + nI j)) < a3 then 0 else 1 : Int32) = 0 then 0 else (if x9 = 0 then 1 else 0 : Int32) : Int32)) (if (if (mo_heightAt st a1 ((144 * a2) + nI j)) < a3 then 0 else 1 : Int32) = 0 then x7 else (if x9 = 0 then (if (x6 + (if (if (mo_heightAt st a1 ((144 * a2) + nI j)) < a3 then 0 else 1 : Int32) = 0 then 0 else (if x9 = 0 then 1 else 0 : Int32) : Int32)) = a4 then ((144 * a2) + nI j) else x7 : Int32) else x7 : Int32) : Int32) (if (if (mo_heightAt st a1 ((144 * a2) + nI j)) < a3 then 0 else 1 : Int32) = 0 then x8 else (if (x6 + (if (if (mo_heightAt st a1 ((144 * a2) + nI j)) < a3 then 0 else 1 : Int32) = 0 then 0 else (if x9 = 0 then 1 else 0 : Int32) : Int32)) = a4 then ((144 * a2) + nI j) else x8 : Int32) : Int32) (if (mo_heightAt st a1 ((144 * a2) + nI j)) < a3 then 0 else 1 : Int32))
set_option maxHeartbeats 4000000 in
set_option maxRecDepth 20000 in
theorem l_mo_gateNow_23 {α : Type} {G : tt_G} {κ : tt_X α} {T : α} (hC : tt_Cx G κ prog_7_method_42_code "TideTableModel" 12 6 141) (st : tt_St) (a1 : Int32) (a2 : Int32) (a3 : Int32) (a4 : Int32) (a5 : Int32) (hI : mo_ok st) (hp : vp_in a1 4) (hd : vp_in a2 10) : ∀ (n j : Nat) (x6 : Int32) (x7 : Int32) (x8 : Int32) (x9 : Int32), j + n = 144 → tt_V G κ T st 130 [(5, .int a5), (7, .int ((mo_gateNow_l23 st a1 a2 a3 a4 a5 n j x6 x7 x8 x9).2.1)), (8, .int ((mo_gateNow_l23 st a1 a2 a3 a4 a5 n j x6 x7 x8 x9).2.2.1))] [] → tt_V G κ T st 23 [(0, .ref (tt_ad G 49)), (1, .int a1), (2, .int a2), (3, .int a3), (4, .int a4), (5, .int a5), (6, .int x6), (7, .int x7), (8, .int x8), (9, .int x9), (10, .int ((144 * a2) + nI j))] [] := by
  intro n
  induction n with
  | zero =>
    intro j x6 x7 x8 x9 hj k
    refine r_iload 10 hC d_mo_gateNow_23 rfl ?_
    refine r_sipush (v := 144) hC d_mo_gateNow_25 (by decide) ?_
    refine r_iload_n 2 hC d_mo_gateNow_28 rfl ?_
    refine r_iconst (v := 1) hC d_mo_gateNow_29 (by decide) ?_
    refine r_iadd hC d_mo_gateNow_30 ?_
    refine r_imul hC d_mo_gateNow_31 ?_
    refine t_icmp_ge (tgt := 130) hC d_mo_gateNow_32 (by decide) (tt_dayE hd (by omega) (by omega)) ?_
    exact tt_cast [5, 7, 8] rfl rfl k
  | succ n ih =>
    intro j x6 x7 x8 x9 hj k
    refine r_iload 10 hC d_mo_gateNow_23 rfl ?_
    refine r_sipush (v := 144) hC d_mo_gateNow_25 (by decide) ?_
    refine r_iload_n 2 hC d_mo_gateNow_28 rfl ?_
    refine r_iconst (v := 1) hC d_mo_gateNow_29 (by decide) ?_
    refine r_iadd hC d_mo_gateNow_30 ?_
    refine r_imul hC d_mo_gateNow_31 ?_
    refine f_icmp_ge (tgt := 130) hC d_mo_gateNow_32 (by decide) (tt_dayS hd (by omega)) ?_
    refine r_aload_n 0 hC d_mo_gateNow_35 rfl ?_
    refine r_iload_n 1 hC d_mo_gateNow_36 rfl ?_
    refine r_iload 10 hC d_mo_gateNow_37 rfl ?_
    refine r_callV (o := 49) (rest := []) (stk1 := [.int (mo_heightAt st a1 ((144 * a2) + nI j))]) hC d_mo_gateNow_39 (c_mo_heightAt G st a1 ((144 * a2) + nI j) hI hp) mw_mo_heightAt mi_mo_heightAt mz_mo_heightAt ml_mo_185 rfl rfl rfl rfl rfl (Nat.le_of_ble_eq_true rfl) rfl ?_
    refine r_iload_n 3 hC d_mo_gateNow_42 rfl ?_
    refine tt_join 51 [(0, .ref (tt_ad G 49)), (1, .int a1), (2, .int a2), (3, .int a3), (4, .int a4), (5, .int a5), (6, .int x6), (7, .int x7), (8, .int x8), (9, .int x9), (10, .int ((144 * a2) + nI j))] [.int (if (mo_heightAt st a1 ((144 * a2) + nI j)) < a3 then 0 else 1 : Int32)] ?_ (fun kj_43 => ?_)
    ·
      refine r_istore [(11, .int (if (mo_heightAt st a1 ((144 * a2) + nI j)) < a3 then 0 else 1 : Int32)), (0, .ref (tt_ad G 49)), (1, .int a1), (2, .int a2), (3, .int a3), (4, .int a4), (5, .int a5), (6, .int x6), (7, .int x7), (8, .int x8), (9, .int x9), (10, .int ((144 * a2) + nI j))] hC d_mo_gateNow_51 (by decide) rfl ?_
      refine r_iload 7 hC d_mo_gateNow_53 rfl ?_
      refine r_iload 0 hC d_mo_gateNow_55 rfl ?_
      refine tt_join 70 [(0, .ref (tt_ad G 49)), (1, .int a1), (2, .int a2), (3, .int a3), (4, .int a4), (5, .int a5), (7, .int x7), (8, .int x8), (9, .int x9), (10, .int ((144 * a2) + nI j)), (11, .int (if (mo_heightAt st a1 ((144 * a2) + nI j)) < a3 then 0 else 1 : Int32))] [.int (if (if (mo_heightAt st a1 ((144 * a2) + nI j)) < a3 then 0 else 1 : Int32) = 0 then 0 else (if x9 = 0 then 1 else 0 : Int32) : Int32), .int x6] ?_ (fun kj_57 => ?_)
      ·
        refine r_iadd hC d_mo_gateNow_70 ?_
        refine r_istore [(6, .int (x6 + (if (if (mo_heightAt st a1 ((144 * a2) + nI j)) < a3 then 0 else 1 : Int32) = 0 then 0 else (if x9 = 0 then 1 else 0 : Int32) : Int32))), (0, .ref (tt_ad G 49)), (1, .int a1), (2, .int a2), (3, .int a3), (4, .int a4), (5, .int a5), (7, .int x7), (8, .int x8), (9, .int x9), (10, .int ((144 * a2) + nI j)), (11, .int (if (mo_heightAt st a1 ((144 * a2) + nI j)) < a3 then 0 else 1 : Int32))] hC d_mo_gateNow_71 (by decide) rfl ?_
        refine r_iload 11 hC d_mo_gateNow_73 rfl ?_
        refine tt_join 97 [(0, .ref (tt_ad G 49)), (1, .int a1), (2, .int a2), (3, .int a3), (4, .int a4), (5, .int a5), (6, .int (x6 + (if (if (mo_heightAt st a1 ((144 * a2) + nI j)) < a3 then 0 else 1 : Int32) = 0 then 0 else (if x9 = 0 then 1 else 0 : Int32) : Int32))), (8, .int x8), (10, .int ((144 * a2) + nI j)), (11, .int (if (mo_heightAt st a1 ((144 * a2) + nI j)) < a3 then 0 else 1 : Int32))] [.int (if (if (mo_heightAt st a1 ((144 * a2) + nI j)) < a3 then 0 else 1 : Int32) = 0 then x7 else (if x9 = 0 then (if (x6 + (if (if (mo_heightAt st a1 ((144 * a2) + nI j)) < a3 then 0 else 1 : Int32) = 0 then 0 else (if x9 = 0 then 1 else 0 : Int32) : Int32)) = a4 then ((144 * a2) + nI j) else x7 : Int32) else x7 : Int32) : Int32)] ?_ (fun kj_75 => ?_)
        ·
          refine r_istore [(7, .int (if (if (mo_heightAt st a1 ((144 * a2) + nI j)) < a3 then 0 else 1 : Int32) = 0 then x7 else (if x9 = 0 then (if (x6 + (if (if (mo_heightAt st a1 ((144 * a2) + nI j)) < a3 then 0 else 1 : Int32) = 0 then 0 else (if x9 = 0 then 1 else 0 : Int32) : Int32)) = a4 then ((144 * a2) + nI j) else x7 : Int32) else x7 : Int32) : Int32)), (0, .ref (tt_ad G 49)), (1, .int a1), (2, .int a2), (3, .int a3), (4, .int a4), (5, .int a5), (6, .int (x6 + (if (if (mo_heightAt st a1 ((144 * a2) + nI j)) < a3 then 0 else 1 : Int32) = 0 then 0 else (if x9 = 0 then 1 else 0 : Int32) : Int32))), (8, .int x8), (10, .int ((144 * a2) + nI j)), (11, .int (if (mo_heightAt st a1 ((144 * a2) + nI j)) < a3 then 0 else 1 : Int32))] hC d_mo_gateNow_97 (by decide) rfl ?_
          refine r_iload 10 hC d_mo_gateNow_99 rfl ?_
          refine tt_join 118 [(0, .ref (tt_ad G 49)), (1, .int a1), (2, .int a2), (3, .int a3), (4, .int a4), (5, .int a5), (6, .int (x6 + (if (if (mo_heightAt st a1 ((144 * a2) + nI j)) < a3 then 0 else 1 : Int32) = 0 then 0 else (if x9 = 0 then 1 else 0 : Int32) : Int32))), (7, .int (if (if (mo_heightAt st a1 ((144 * a2) + nI j)) < a3 then 0 else 1 : Int32) = 0 then x7 else (if x9 = 0 then (if (x6 + (if (if (mo_heightAt st a1 ((144 * a2) + nI j)) < a3 then 0 else 1 : Int32) = 0 then 0 else (if x9 = 0 then 1 else 0 : Int32) : Int32)) = a4 then ((144 * a2) + nI j) else x7 : Int32) else x7 : Int32) : Int32)), (10, .int ((144 * a2) + nI j)), (11, .int (if (mo_heightAt st a1 ((144 * a2) + nI j)) < a3 then 0 else 1 : Int32))] [.int (if (if (mo_heightAt st a1 ((144 * a2) + nI j)) < a3 then 0 else 1 : Int32) = 0 then x8 else (if (x6 + (if (if (mo_heightAt st a1 ((144 * a2) + nI j)) < a3 then 0 else 1 : Int32) = 0 then 0 else (if x9 = 0 then 1 else 0 : Int32) : Int32)) = a4 then ((144 * a2) + nI j) else x8 : Int32) : Int32)] ?_ (fun kj_101 => ?_)
          ·
            refine r_istore [(8, .int (if (if (mo_heightAt st a1 ((144 * a2) + nI j)) < a3 then 0 else 1 : Int32) = 0 then x8 else (if (x6 + (if (if (mo_heightAt st a1 ((144 * a2) + nI j)) < a3 then 0 else 1 : Int32) = 0 then 0 else (if x9 = 0 then 1 else 0 : Int32) : Int32)) = a4 then ((144 * a2) + nI j) else x8 : Int32) : Int32)), (0, .ref (tt_ad G 49)), (1, .int a1), (2, .int a2), (3, .int a3), (4, .int a4), (5, .int a5), (6, .int (x6 + (if (if (mo_heightAt st a1 ((144 * a2) + nI j)) < a3 then 0 else 1 : Int32) = 0 then 0 else (if x9 = 0 then 1 else 0 : Int32) : Int32))), (7, .int (if (if (mo_heightAt st a1 ((144 * a2) + nI j)) < a3 then 0 else 1 : Int32) = 0 then x7 else (if x9 = 0 then (if (x6 + (if (if (mo_heightAt st a1 ((144 * a2) + nI j)) < a3 then 0 else 1 : Int32) = 0 then 0 else (if x9 = 0 then 1 else 0 : Int32) : Int32)) = a4 then ((144 * a2) + nI j) else x7 : Int32) else x7 : Int32) : Int32)), (10, .int ((144 * a2) + nI j)), (11, .int (if (mo_heightAt st a1 ((144 * a2) + nI j)) < a3 then 0 else 1 : Int32))] hC d_mo_gateNow_118 (by decide) rfl ?_
            refine r_iload 10 hC d_mo_gateNow_120 rfl ?_
            refine r_istore [(9, .int (if (mo_heightAt st a1 ((144 * a2) + nI j)) < a3 then 0 else 1 : Int32)), (8, .int (if (if (mo_heightAt st a1 ((144 * a2) + nI j)) < a3 then 0 else 1 : Int32) = 0 then x8 else (if (x6 + (if (if (mo_heightAt st a1 ((144 * a2) + nI j)) < a3 then 0 else 1 : Int32) = 0 then 0 else (if x9 = 0 then 1 else 0 : Int32) : Int32)) = a4 then ((144 * a2) + nI j) else x8 : Int32) : Int32)), (0, .ref (tt_ad G 49)), (1, .int a1), (2, .int a2), (3, .int a3), (4, .int a4), (5, .int a5), (6, .int (x6 + (if (if (mo_heightAt st a1 ((144 * a2) + nI j)) < a3 then 0 else 1 : Int32) = 0 then 0 else (if x9 = 0 then 1 else 0 : Int32) : Int32))), (7, .int (if (if (mo_heightAt st a1 ((144 * a2) + nI j)) < a3 then 0 else 1 : Int32) = 0 then x7 else (if x9 = 0 then (if (x6 + (if (if (mo_heightAt st a1 ((144 * a2) + nI j)) < a3 then 0 else 1 : Int32) = 0 then 0 else (if x9 = 0 then 1 else 0 : Int32) : Int32)) = a4 then ((144 * a2) + nI j) else x7 : Int32) else x7 : Int32) : Int32)), (10, .int ((144 * a2) + nI j)), (11, .int (if (mo_heightAt st a1 ((144 * a2) + nI j)) < a3 then 0 else 1 : Int32))] hC d_mo_gateNow_122 (by decide) rfl ?_
            refine r_iinc 10 ((144 * a2) + nI (j + 1)) [(10, .int ((144 * a2) + nI (j + 1))), (9, .int (if (mo_heightAt st a1 ((144 * a2) + nI j)) < a3 then 0 else 1 : Int32)), (8, .int (if (if (mo_heightAt st a1 ((144 * a2) + nI j)) < a3 then 0 else 1 : Int32) = 0 then x8 else (if (x6 + (if (if (mo_heightAt st a1 ((144 * a2) + nI j)) < a3 then 0 else 1 : Int32) = 0 then 0 else (if x9 = 0 then 1 else 0 : Int32) : Int32)) = a4 then ((144 * a2) + nI j) else x8 : Int32) : Int32)), (0, .ref (tt_ad G 49)), (1, .int a1), (2, .int a2), (3, .int a3), (4, .int a4), (5, .int a5), (6, .int (x6 + (if (if (mo_heightAt st a1 ((144 * a2) + nI j)) < a3 then 0 else 1 : Int32) = 0 then 0 else (if x9 = 0 then 1 else 0 : Int32) : Int32))), (7, .int (if (if (mo_heightAt st a1 ((144 * a2) + nI j)) < a3 then 0 else 1 : Int32) = 0 then x7 else (if x9 = 0 then (if (x6 + (if (if (mo_heightAt st a1 ((144 * a2) + nI j)) < a3 then 0 else 1 : Int32) = 0 then 0 else (if x9 = 0 then 1 else 0 : Int32) : Int32)) = a4 then ((144 * a2) + nI j) else x7 : Int32) else x7 : Int32) : Int32)), (11, .int (if (mo_heightAt st a1 ((144 * a2) + nI j)) < a3 then 0 else 1 : Int32))] hC d_mo_gateNow_124 rfl (by rw [nI_succ, ← Int32.add_assoc]; rfl) (by decide) rfl ?_
            refine r_goto (tgt := 23) hC d_mo_gateNow_127 (by decide) ?_
            exact tt_cast [3, 4, 5, 6, 7, 8, 9, 10, 2, 1, 0] rfl rfl (ih (j + 1) (x6 + (if (if (mo_heightAt st a1 ((144 * a2) + nI j)) < a3 then 0 else 1 : Int32) = 0 then 0 else (if x9 = 0 then 1 else 0 : Int32) : Int32)) (if (if (mo_heightAt st a1 ((144 * a2) + nI j)) < a3 then 0 else 1 : Int32) = 0 then x7 else (if x9 = 0 then (if (x6 + (if (if (mo_heightAt st a1 ((144 * a2) + nI j)) < a3 then 0 else 1 : Int32) = 0 then 0 else (if x9 = 0 then 1 else 0 : Int32) : Int32)) = a4 then ((144 * a2) + nI j) else x7 : Int32) else x7 : Int32) : Int32) (if (if (mo_heightAt st a1 ((144 * a2) + nI j)) < a3 then 0 else 1 : Int32) = 0 then x8 else (if (x6 + (if (if (mo_heightAt st a1 ((144 * a2) + nI j)) < a3 then 0 else 1 : Int32) = 0 then 0 else (if x9 = 0 then 1 else 0 : Int32) : Int32)) = a4 then ((144 * a2) + nI j) else x8 : Int32) : Int32) (if (mo_heightAt st a1 ((144 * a2) + nI j)) < a3 then 0 else 1 : Int32) (by omega) (by simpa only [mo_gateNow_l23] using k))
          ·
            refine j_if_eq (tgt := 116) hC d_mo_gateNow_101 (by decide) (fun c_101 => ?_) (fun c_101 => ?_)
            ·
              refine r_iload 8 hC d_mo_gateNow_116 rfl ?_
              exact tt_cast [1, 2, 3, 4, 5, 6, 7, 0, 9, 10] rfl (by simp only [if_pos c_101]) kj_101
            ·
              refine r_iload 7 hC d_mo_gateNow_104 rfl ?_
              refine r_iload 5 hC d_mo_gateNow_106 rfl ?_
              refine tt_join 118 [(0, .ref (tt_ad G 49)), (1, .int a1), (2, .int a2), (3, .int a3), (4, .int a4), (5, .int a5), (6, .int (x6 + (if (if (mo_heightAt st a1 ((144 * a2) + nI j)) < a3 then 0 else 1 : Int32) = 0 then 0 else (if x9 = 0 then 1 else 0 : Int32) : Int32))), (7, .int (if (if (mo_heightAt st a1 ((144 * a2) + nI j)) < a3 then 0 else 1 : Int32) = 0 then x7 else (if x9 = 0 then (if (x6 + (if (if (mo_heightAt st a1 ((144 * a2) + nI j)) < a3 then 0 else 1 : Int32) = 0 then 0 else (if x9 = 0 then 1 else 0 : Int32) : Int32)) = a4 then ((144 * a2) + nI j) else x7 : Int32) else x7 : Int32) : Int32)), (10, .int ((144 * a2) + nI j)), (11, .int (if (mo_heightAt st a1 ((144 * a2) + nI j)) < a3 then 0 else 1 : Int32))] [.int (if (x6 + (if (if (mo_heightAt st a1 ((144 * a2) + nI j)) < a3 then 0 else 1 : Int32) = 0 then 0 else (if x9 = 0 then 1 else 0 : Int32) : Int32)) = a4 then ((144 * a2) + nI j) else x8 : Int32)] ?_ (fun kj_108 => ?_)
              ·
                exact tt_cast [0, 1, 2, 3, 4, 5, 6, 7, 8, 9] rfl (by simp only [if_neg c_101]) kj_101
              ·
                refine j_icmp_ne (tgt := 116) hC d_mo_gateNow_108 (by decide) (fun c_108 => ?_) (fun c_108 => ?_)
                ·
                  refine r_iload 8 hC d_mo_gateNow_116 rfl ?_
                  exact tt_cast [1, 2, 3, 4, 5, 6, 7, 0, 9, 10] rfl (by simp only [if_neg c_108]) kj_108
                ·
                  refine r_iload 9 hC d_mo_gateNow_111 rfl ?_
                  refine r_goto (tgt := 118) hC d_mo_gateNow_113 (by decide) ?_
                  exact tt_cast [1, 2, 3, 4, 5, 6, 7, 0, 9, 10] rfl (by simp only [if_pos c_108]) kj_108
        ·
          refine j_if_eq (tgt := 95) hC d_mo_gateNow_75 (by decide) (fun c_75 => ?_) (fun c_75 => ?_)
          ·
            refine r_iload 7 hC d_mo_gateNow_95 rfl ?_
            exact tt_cast [1, 2, 3, 4, 5, 6, 0, 8, 10, 11] rfl (by simp only [if_pos c_75]) kj_75
          ·
            refine r_iload 9 hC d_mo_gateNow_78 rfl ?_
            refine tt_join 97 [(0, .ref (tt_ad G 49)), (1, .int a1), (2, .int a2), (3, .int a3), (4, .int a4), (5, .int a5), (6, .int (x6 + (if (if (mo_heightAt st a1 ((144 * a2) + nI j)) < a3 then 0 else 1 : Int32) = 0 then 0 else (if x9 = 0 then 1 else 0 : Int32) : Int32))), (8, .int x8), (10, .int ((144 * a2) + nI j)), (11, .int (if (mo_heightAt st a1 ((144 * a2) + nI j)) < a3 then 0 else 1 : Int32))] [.int (if x9 = 0 then (if (x6 + (if (if (mo_heightAt st a1 ((144 * a2) + nI j)) < a3 then 0 else 1 : Int32) = 0 then 0 else (if x9 = 0 then 1 else 0 : Int32) : Int32)) = a4 then ((144 * a2) + nI j) else x7 : Int32) else x7 : Int32)] ?_ (fun kj_80 => ?_)
            ·
              exact tt_cast [0, 1, 2, 3, 4, 5, 6, 7, 8, 9] rfl (by simp only [if_neg c_75]) kj_75
            ·
              refine j_if_ne (tgt := 95) hC d_mo_gateNow_80 (by decide) (fun c_80 => ?_) (fun c_80 => ?_)
              ·
                refine r_iload 7 hC d_mo_gateNow_95 rfl ?_
                exact tt_cast [1, 2, 3, 4, 5, 6, 0, 8, 10, 11] rfl (by simp only [if_neg c_80]) kj_80
              ·
                refine r_iload 0 hC d_mo_gateNow_83 rfl ?_
                refine r_iload 5 hC d_mo_gateNow_85 rfl ?_
                refine tt_join 97 [(0, .ref (tt_ad G 49)), (1, .int a1), (2, .int a2), (3, .int a3), (4, .int a4), (5, .int a5), (6, .int (x6 + (if (if (mo_heightAt st a1 ((144 * a2) + nI j)) < a3 then 0 else 1 : Int32) = 0 then 0 else (if x9 = 0 then 1 else 0 : Int32) : Int32))), (8, .int x8), (10, .int ((144 * a2) + nI j)), (11, .int (if (mo_heightAt st a1 ((144 * a2) + nI j)) < a3 then 0 else 1 : Int32))] [.int (if (x6 + (if (if (mo_heightAt st a1 ((144 * a2) + nI j)) < a3 then 0 else 1 : Int32) = 0 then 0 else (if x9 = 0 then 1 else 0 : Int32) : Int32)) = a4 then ((144 * a2) + nI j) else x7 : Int32)] ?_ (fun kj_87 => ?_)
                ·
                  exact tt_cast [0, 1, 2, 3, 4, 5, 6, 7, 8, 9] rfl (by simp only [if_pos c_80]) kj_80
                ·
                  refine j_icmp_ne (tgt := 95) hC d_mo_gateNow_87 (by decide) (fun c_87 => ?_) (fun c_87 => ?_)
                  ·
                    refine r_iload 7 hC d_mo_gateNow_95 rfl ?_
                    exact tt_cast [1, 2, 3, 4, 5, 6, 0, 8, 10, 11] rfl (by simp only [if_neg c_87]) kj_87
                  ·
                    refine r_iload 10 hC d_mo_gateNow_90 rfl ?_
                    refine r_goto (tgt := 97) hC d_mo_gateNow_92 (by decide) ?_
                    exact tt_cast [1, 2, 3, 4, 5, 6, 0, 8, 10, 11] rfl (by simp only [if_pos c_87]) kj_87
      ·
        refine j_if_eq (tgt := 69) hC d_mo_gateNow_57 (by decide) (fun c_57 => ?_) (fun c_57 => ?_)
        ·
          refine r_iconst (v := 0) hC d_mo_gateNow_69 (by decide) ?_
          exact tt_cast [1, 2, 3, 4, 5, 6, 8, 9, 10, 11, 0] rfl (by simp only [if_pos c_57]) kj_57
        ·
          refine r_iload 10 hC d_mo_gateNow_60 rfl ?_
          refine tt_join 70 [(0, .ref (tt_ad G 49)), (1, .int a1), (2, .int a2), (3, .int a3), (4, .int a4), (5, .int a5), (7, .int x7), (8, .int x8), (9, .int x9), (10, .int ((144 * a2) + nI j)), (11, .int (if (mo_heightAt st a1 ((144 * a2) + nI j)) < a3 then 0 else 1 : Int32))] [.int (if x9 = 0 then 1 else 0 : Int32), .int x6] ?_ (fun kj_62 => ?_)
          ·
            exact tt_cast [0, 1, 2, 3, 4, 5, 6, 7, 8, 9, 10] rfl (by simp only [if_neg c_57]) kj_57
          ·
            refine j_if_ne (tgt := 69) hC d_mo_gateNow_62 (by decide) (fun c_62 => ?_) (fun c_62 => ?_)
            ·
              refine r_iconst (v := 0) hC d_mo_gateNow_69 (by decide) ?_
              exact tt_cast [1, 2, 3, 4, 5, 6, 8, 9, 10, 11, 0] rfl (by simp only [if_neg c_62]) kj_62
            ·
              refine r_iconst (v := 1) hC d_mo_gateNow_65 (by decide) ?_
              refine r_goto (tgt := 70) hC d_mo_gateNow_66 (by decide) ?_
              exact tt_cast [1, 2, 3, 4, 5, 6, 8, 9, 10, 11, 0] rfl (by simp only [if_pos c_62]) kj_62
    ·
      refine j_icmp_lt (tgt := 50) hC d_mo_gateNow_43 (by decide) (fun c_43 => ?_) (fun c_43 => ?_)
      ·
        refine r_iconst (v := 0) hC d_mo_gateNow_50 (by decide) ?_
        exact tt_cast [0, 1, 2, 3, 4, 5, 6, 7, 8, 9, 10] rfl (by simp only [if_pos c_43]) kj_43
      ·
        refine r_iconst (v := 1) hC d_mo_gateNow_46 (by decide) ?_
        refine r_goto (tgt := 51) hC d_mo_gateNow_47 (by decide) ?_
        exact tt_cast [0, 1, 2, 3, 4, 5, 6, 7, 8, 9, 10] rfl (by simp only [if_neg c_43]) kj_43
def mo_gateNow (st : tt_St) (a1 : Int32) (a2 : Int32) (a3 : Int32) (a4 : Int32) (a5 : Int32) : Int32 := (if ((mo_gateNow_l23 st a1 a2 a3 a4 a5 144 0 (-1) (-10001) (-10001) 0).2.1) = (-10001) then (-10101) else (if a5 = 0 then ((mo_gateNow_l23 st a1 a2 a3 a4 a5 144 0 (-1) (-10001) (-10001) 0).2.1) else ((mo_gateNow_l23 st a1 a2 a3 a4 a5 144 0 (-1) (-10001) (-10001) 0).2.2.1)))
set_option maxHeartbeats 4000000 in
set_option maxRecDepth 20000 in
theorem c_mo_gateNow (G : tt_G) (st : tt_St) (a1 : Int32) (a2 : Int32) (a3 : Int32) (a4 : Int32) (a5 : Int32) (hI : mo_ok st) (hp : vp_in a1 4) (hd : vp_in a2 10) : tt_C y_mo_gateNow prog_7_method_42_code 12 (some .int) 6 141 G [.ref (tt_ad G 49), .int a1, .int a2, .int a3, .int a4, .int a5] st (some (.int (mo_gateNow st a1 a2 a3 a4 a5))) st := by
  refine tt_enter (α := Int32) (mk := fun r => (some (.int r), st)) (T := (mo_gateNow st a1 a2 a3 a4 a5)) (by decide +kernel) (Nat.le_of_ble_eq_true rfl) (fun κ hC hR => ?_)
  rw [mo_gateNow]
  refine r_iconst (v := (-1)) hC d_mo_gateNow_0 (by decide) ?_
  refine r_istore [(6, .int (-1)), (0, .ref (tt_ad G 49)), (1, .int a1), (2, .int a2), (3, .int a3), (4, .int a4), (5, .int a5)] hC d_mo_gateNow_1 (by decide) rfl ?_
  refine r_sipush (v := (-10001)) hC d_mo_gateNow_3 (by decide) ?_
  refine r_istore [(7, .int (-10001)), (6, .int (-1)), (0, .ref (tt_ad G 49)), (1, .int a1), (2, .int a2), (3, .int a3), (4, .int a4), (5, .int a5)] hC d_mo_gateNow_6 (by decide) rfl ?_
  refine r_sipush (v := (-10001)) hC d_mo_gateNow_8 (by decide) ?_
  refine r_istore [(8, .int (-10001)), (7, .int (-10001)), (6, .int (-1)), (0, .ref (tt_ad G 49)), (1, .int a1), (2, .int a2), (3, .int a3), (4, .int a4), (5, .int a5)] hC d_mo_gateNow_11 (by decide) rfl ?_
  refine r_iconst (v := 0) hC d_mo_gateNow_13 (by decide) ?_
  refine r_istore [(9, .int 0), (8, .int (-10001)), (7, .int (-10001)), (6, .int (-1)), (0, .ref (tt_ad G 49)), (1, .int a1), (2, .int a2), (3, .int a3), (4, .int a4), (5, .int a5)] hC d_mo_gateNow_14 (by decide) rfl ?_
  refine r_sipush (v := 144) hC d_mo_gateNow_16 (by decide) ?_
  refine r_iload_n 6 hC d_mo_gateNow_19 rfl ?_
  refine r_imul hC d_mo_gateNow_20 ?_
  refine r_istore [(10, .int (144 * a2)), (9, .int 0), (8, .int (-10001)), (7, .int (-10001)), (6, .int (-1)), (0, .ref (tt_ad G 49)), (1, .int a1), (2, .int a2), (3, .int a3), (4, .int a4), (5, .int a5)] hC d_mo_gateNow_21 (by decide) rfl ?_
  refine tt_cast [5, 6, 7, 8, 9, 10, 4, 3, 2, 1, 0] (by simp only [nI_0, Int32.add_zero]; rfl) rfl (l_mo_gateNow_23 hC st a1 a2 a3 a4 a5 hI hp hd 144 0 (-1) (-10001) (-10001) 0 (by omega)  ?_)
  refine r_iload 1 hC d_mo_gateNow_130 rfl ?_
  refine r_sipush (v := (-10001)) hC d_mo_gateNow_132 (by decide) ?_
  refine r_icmp_ne (tgt := 144) hC d_mo_gateNow_135 (by decide) (fun c_135 => ?_) (fun c_135 => ?_)
  ·
    refine r_iload 0 hC d_mo_gateNow_144 rfl ?_
    refine r_if_ne (tgt := 154) hC d_mo_gateNow_146 (by decide) (fun c_146 => ?_) (fun c_146 => ?_)
    ·
      refine r_iload 2 hC d_mo_gateNow_154 rfl ?_
      exact r_iret hC hR d_mo_gateNow_156 rfl rfl
    ·
      refine r_iload 1 hC d_mo_gateNow_149 rfl ?_
      refine r_goto (tgt := 156) hC d_mo_gateNow_151 (by decide) ?_
      exact r_iret hC hR d_mo_gateNow_156 rfl rfl
  ·
    refine r_sipush (v := (-10101)) hC d_mo_gateNow_138 (by decide) ?_
    refine r_goto (tgt := 156) hC d_mo_gateNow_141 (by decide) ?_
    exact r_iret hC hR d_mo_gateNow_156 rfl rfl
/-! TideTableModel.gate(IIIII)I -/
def mo_gate (st : tt_St) (a1 : Int32) (a2 : Int32) (a3 : Int32) (a4 : Int32) (a5 : Int32) : Int32 := (if (mo_isPort st a1) = 0 then (-10101) else (if (mo_isDay a2) = 0 then (-10102) else (if (mo_isNeed a3) = 0 then (-10102) else (if (mo_gateNow st a1 a2 a3 a4 0) = (-10101) then (-10101) else (if (mo_within a5 0 1) = 0 then (-10102) else (mo_gateNow st a1 a2 a3 a4 a5))))))
set_option maxHeartbeats 4000000 in
set_option maxRecDepth 20000 in
theorem c_mo_gate (G : tt_G) (st : tt_St) (a1 : Int32) (a2 : Int32) (a3 : Int32) (a4 : Int32) (a5 : Int32) (hI : mo_ok st) : tt_C y_mo_gate prog_7_method_43_code 6 (some .int) 7 172 G [.ref (tt_ad G 49), .int a1, .int a2, .int a3, .int a4, .int a5] st (some (.int (mo_gate st a1 a2 a3 a4 a5))) st := by
  refine tt_enter (α := Int32) (mk := fun r => (some (.int r), st)) (T := (mo_gate st a1 a2 a3 a4 a5)) (by decide +kernel) (Nat.le_of_ble_eq_true rfl) (fun κ hC hR => ?_)
  rw [mo_gate]
  refine r_aload_n 0 hC d_mo_gate_0 rfl ?_
  refine r_iload_n 1 hC d_mo_gate_1 rfl ?_
  refine r_callV (o := 49) (rest := []) (stk1 := [.int (mo_isPort st a1)]) hC d_mo_gate_2 (c_mo_isPort G st a1) mw_mo_isPort mi_mo_isPort mz_mo_isPort ml_mo_147 rfl rfl rfl rfl rfl (Nat.le_of_ble_eq_true rfl) rfl ?_
  refine r_if_ne (tgt := 12) hC d_mo_gate_5 (by decide) (fun c_5 => ?_) (fun c_5 => ?_)
  ·
    refine r_iload_n 2 hC d_mo_gate_12 rfl ?_
    refine r_callS (rest := []) (stk1 := [.int (mo_isDay a2)]) hC d_mo_gate_13 (c_mo_isDay G st a2) mw_mo_isDay ms_mo_isDay ml_mo_194 rfl rfl rfl (Nat.le_of_ble_eq_true rfl) rfl ?_
    refine r_if_eq (tgt := 26) hC d_mo_gate_16 (by decide) (fun c_16 => ?_) (fun c_16 => ?_)
    ·
      refine r_sipush (v := (-10102)) hC d_mo_gate_26 (by decide) ?_
      exact r_iret hC hR d_mo_gate_29 rfl rfl
    ·
      refine r_iload_n 3 hC d_mo_gate_19 rfl ?_
      refine r_callS (rest := []) (stk1 := [.int (mo_isNeed a3)]) hC d_mo_gate_20 (c_mo_isNeed G st a3) mw_mo_isNeed ms_mo_isNeed ml_mo_201 rfl rfl rfl (Nat.le_of_ble_eq_true rfl) rfl ?_
      refine r_if_ne (tgt := 30) hC d_mo_gate_23 (by decide) (fun c_23 => ?_) (fun c_23 => ?_)
      ·
        refine r_aload_n 0 hC d_mo_gate_30 rfl ?_
        refine r_iload_n 1 hC d_mo_gate_31 rfl ?_
        refine r_iload_n 2 hC d_mo_gate_32 rfl ?_
        refine r_iload_n 3 hC d_mo_gate_33 rfl ?_
        refine r_iload 4 hC d_mo_gate_34 rfl ?_
        refine r_iconst (v := 0) hC d_mo_gate_36 (by decide) ?_
        refine r_callV (o := 49) (rest := []) (stk1 := [.int (mo_gateNow st a1 a2 a3 a4 0)]) hC d_mo_gate_37 (c_mo_gateNow G st a1 a2 a3 a4 0 hI (mo_isPort_in hI c_5) (mo_isDay_in c_16)) mw_mo_gateNow mi_mo_gateNow mz_mo_gateNow ml_mo_204 rfl rfl rfl rfl rfl (Nat.le_of_ble_eq_true rfl) rfl ?_
        refine r_sipush (v := (-10101)) hC d_mo_gate_40 (by decide) ?_
        refine r_icmp_ne (tgt := 52) hC d_mo_gate_43 (by decide) (fun c_43 => ?_) (fun c_43 => ?_)
        ·
          refine r_iload 5 hC d_mo_gate_52 rfl ?_
          refine r_iconst (v := 0) hC d_mo_gate_54 (by decide) ?_
          refine r_iconst (v := 1) hC d_mo_gate_55 (by decide) ?_
          refine r_callS (rest := []) (stk1 := [.int (mo_within a5 0 1)]) hC d_mo_gate_56 (c_mo_within G st a5 0 1) mw_mo_within ms_mo_within ml_mo_93 rfl rfl rfl (Nat.le_of_ble_eq_true rfl) rfl ?_
          refine r_if_eq (tgt := 76) hC d_mo_gate_59 (by decide) (fun c_59 => ?_) (fun c_59 => ?_)
          ·
            refine r_sipush (v := (-10102)) hC d_mo_gate_76 (by decide) ?_
            exact r_iret hC hR d_mo_gate_79 rfl rfl
          ·
            refine r_aload_n 0 hC d_mo_gate_62 rfl ?_
            refine r_iload_n 1 hC d_mo_gate_63 rfl ?_
            refine r_iload_n 2 hC d_mo_gate_64 rfl ?_
            refine r_iload_n 3 hC d_mo_gate_65 rfl ?_
            refine r_iload 4 hC d_mo_gate_66 rfl ?_
            refine r_iload 5 hC d_mo_gate_68 rfl ?_
            refine r_callV (o := 49) (rest := []) (stk1 := [.int (mo_gateNow st a1 a2 a3 a4 a5)]) hC d_mo_gate_70 (c_mo_gateNow G st a1 a2 a3 a4 a5 hI (mo_isPort_in hI c_5) (mo_isDay_in c_16)) mw_mo_gateNow mi_mo_gateNow mz_mo_gateNow ml_mo_204 rfl rfl rfl rfl rfl (Nat.le_of_ble_eq_true rfl) rfl ?_
            refine r_goto (tgt := 79) hC d_mo_gate_73 (by decide) ?_
            exact r_iret hC hR d_mo_gate_79 rfl rfl
        ·
          refine r_sipush (v := (-10101)) hC d_mo_gate_46 (by decide) ?_
          refine r_goto (tgt := 79) hC d_mo_gate_49 (by decide) ?_
          exact r_iret hC hR d_mo_gate_79 rfl rfl
      ·
        refine r_sipush (v := (-10102)) hC d_mo_gate_26 (by decide) ?_
        exact r_iret hC hR d_mo_gate_29 rfl rfl
  ·
    refine r_sipush (v := (-10101)) hC d_mo_gate_8 (by decide) ?_
    exact r_iret hC hR d_mo_gate_11 rfl rfl
/-! TideTableModel.dryNow(III)I -/
def mo_dryNow_l10 (st : tt_St) (a1 : Int32) (a2 : Int32) (a3 : Int32) : Nat → Nat → Int32 → Int32
  | 0, j, x4 => x4
  | n + 1, j, x4 => (mo_dryNow_l10 st a1 a2 a3 n (j + 1) (x4 + (if a3 ≤ (mo_heightAt st a1 ((144 * a2) + nI j)) then 0 else 1 : Int32)))
set_option maxHeartbeats 4000000 in
set_option maxRecDepth 20000 in
theorem l_mo_dryNow_10 {α : Type} {G : tt_G} {κ : tt_X α} {T : α} (hC : tt_Cx G κ prog_7_method_44_code "TideTableModel" 6 6 141) (st : tt_St) (a1 : Int32) (a2 : Int32) (a3 : Int32) (hI : mo_ok st) (hp : vp_in a1 4) (hd : vp_in a2 10) : ∀ (n j : Nat) (x4 : Int32), j + n = 144 → tt_V G κ T st 49 [(4, .int (mo_dryNow_l10 st a1 a2 a3 n j x4))] [] → tt_V G κ T st 10 [(0, .ref (tt_ad G 49)), (1, .int a1), (2, .int a2), (3, .int a3), (4, .int x4), (5, .int ((144 * a2) + nI j))] [] := by
  intro n
  induction n with
  | zero =>
    intro j x4 hj k
    refine r_iload 5 hC d_mo_dryNow_10 rfl ?_
    refine r_sipush (v := 144) hC d_mo_dryNow_12 (by decide) ?_
    refine r_iload_n 2 hC d_mo_dryNow_15 rfl ?_
    refine r_iconst (v := 1) hC d_mo_dryNow_16 (by decide) ?_
    refine r_iadd hC d_mo_dryNow_17 ?_
    refine r_imul hC d_mo_dryNow_18 ?_
    refine t_icmp_ge (tgt := 49) hC d_mo_dryNow_19 (by decide) (tt_dayE hd (by omega) (by omega)) ?_
    exact tt_cast [4] rfl rfl k
  | succ n ih =>
    intro j x4 hj k
    refine r_iload 5 hC d_mo_dryNow_10 rfl ?_
    refine r_sipush (v := 144) hC d_mo_dryNow_12 (by decide) ?_
    refine r_iload_n 2 hC d_mo_dryNow_15 rfl ?_
    refine r_iconst (v := 1) hC d_mo_dryNow_16 (by decide) ?_
    refine r_iadd hC d_mo_dryNow_17 ?_
    refine r_imul hC d_mo_dryNow_18 ?_
    refine f_icmp_ge (tgt := 49) hC d_mo_dryNow_19 (by decide) (tt_dayS hd (by omega)) ?_
    refine r_iload 4 hC d_mo_dryNow_22 rfl ?_
    refine r_aload_n 0 hC d_mo_dryNow_24 rfl ?_
    refine r_iload_n 1 hC d_mo_dryNow_25 rfl ?_
    refine r_iload 5 hC d_mo_dryNow_26 rfl ?_
    refine r_callV (o := 49) (rest := [.int x4]) (stk1 := [.int (mo_heightAt st a1 ((144 * a2) + nI j)), .int x4]) hC d_mo_dryNow_28 (c_mo_heightAt G st a1 ((144 * a2) + nI j) hI hp) mw_mo_heightAt mi_mo_heightAt mz_mo_heightAt ml_mo_185 rfl rfl rfl rfl rfl (Nat.le_of_ble_eq_true rfl) rfl ?_
    refine r_iload_n 3 hC d_mo_dryNow_31 rfl ?_
    refine tt_join 40 [(0, .ref (tt_ad G 49)), (1, .int a1), (2, .int a2), (3, .int a3), (5, .int ((144 * a2) + nI j))] [.int (if a3 ≤ (mo_heightAt st a1 ((144 * a2) + nI j)) then 0 else 1 : Int32), .int x4] ?_ (fun kj_32 => ?_)
    ·
      refine r_iadd hC d_mo_dryNow_40 ?_
      refine r_istore [(4, .int (x4 + (if a3 ≤ (mo_heightAt st a1 ((144 * a2) + nI j)) then 0 else 1 : Int32))), (0, .ref (tt_ad G 49)), (1, .int a1), (2, .int a2), (3, .int a3), (5, .int ((144 * a2) + nI j))] hC d_mo_dryNow_41 (by decide) rfl ?_
      refine r_iinc 5 ((144 * a2) + nI (j + 1)) [(5, .int ((144 * a2) + nI (j + 1))), (4, .int (x4 + (if a3 ≤ (mo_heightAt st a1 ((144 * a2) + nI j)) then 0 else 1 : Int32))), (0, .ref (tt_ad G 49)), (1, .int a1), (2, .int a2), (3, .int a3)] hC d_mo_dryNow_43 rfl (by rw [nI_succ, ← Int32.add_assoc]; rfl) (by decide) rfl ?_
      refine r_goto (tgt := 10) hC d_mo_dryNow_46 (by decide) ?_
      exact tt_cast [2, 3, 4, 5, 1, 0] rfl rfl (ih (j + 1) (x4 + (if a3 ≤ (mo_heightAt st a1 ((144 * a2) + nI j)) then 0 else 1 : Int32)) (by omega) (by simpa only [mo_dryNow_l10] using k))
    ·
      refine j_icmp_ge (tgt := 39) hC d_mo_dryNow_32 (by decide) (fun c_32 => ?_) (fun c_32 => ?_)
      ·
        refine r_iconst (v := 0) hC d_mo_dryNow_39 (by decide) ?_
        exact tt_cast [0, 1, 2, 3, 5] rfl (by simp only [if_pos c_32]) kj_32
      ·
        refine r_iconst (v := 1) hC d_mo_dryNow_35 (by decide) ?_
        refine r_goto (tgt := 40) hC d_mo_dryNow_36 (by decide) ?_
        exact tt_cast [0, 1, 2, 3, 5] rfl (by simp only [if_neg c_32]) kj_32
def mo_dryNow (st : tt_St) (a1 : Int32) (a2 : Int32) (a3 : Int32) : Int32 := (mo_dryNow_l10 st a1 a2 a3 144 0 0)
set_option maxHeartbeats 4000000 in
set_option maxRecDepth 20000 in
theorem c_mo_dryNow (G : tt_G) (st : tt_St) (a1 : Int32) (a2 : Int32) (a3 : Int32) (hI : mo_ok st) (hp : vp_in a1 4) (hd : vp_in a2 10) : tt_C y_mo_dryNow prog_7_method_44_code 6 (some .int) 6 141 G [.ref (tt_ad G 49), .int a1, .int a2, .int a3] st (some (.int (mo_dryNow st a1 a2 a3))) st := by
  refine tt_enter (α := Int32) (mk := fun r => (some (.int r), st)) (T := (mo_dryNow st a1 a2 a3)) (by decide +kernel) (Nat.le_of_ble_eq_true rfl) (fun κ hC hR => ?_)
  rw [mo_dryNow]
  refine r_iconst (v := 0) hC d_mo_dryNow_0 (by decide) ?_
  refine r_istore [(4, .int 0), (0, .ref (tt_ad G 49)), (1, .int a1), (2, .int a2), (3, .int a3)] hC d_mo_dryNow_1 (by decide) rfl ?_
  refine r_sipush (v := 144) hC d_mo_dryNow_3 (by decide) ?_
  refine r_iload_n 3 hC d_mo_dryNow_6 rfl ?_
  refine r_imul hC d_mo_dryNow_7 ?_
  refine r_istore [(5, .int (144 * a2)), (4, .int 0), (0, .ref (tt_ad G 49)), (1, .int a1), (2, .int a2), (3, .int a3)] hC d_mo_dryNow_8 (by decide) rfl ?_
  refine tt_cast [2, 3, 4, 5, 1, 0] (by simp only [nI_0, Int32.add_zero]; rfl) rfl (l_mo_dryNow_10 hC st a1 a2 a3 hI hp hd 144 0 0 (by omega)  ?_)
  refine r_iload 0 hC d_mo_dryNow_49 rfl ?_
  exact r_iret hC hR d_mo_dryNow_51 rfl rfl
/-! TideTableModel.dry(III)I -/
def mo_dry (st : tt_St) (a1 : Int32) (a2 : Int32) (a3 : Int32) : Int32 := (if (mo_isPort st a1) = 0 then (-10101) else (if (mo_isDay a2) = 0 then (-10102) else (if (mo_isNeed a3) = 0 then (-10102) else (mo_dryNow st a1 a2 a3))))
set_option maxHeartbeats 4000000 in
set_option maxRecDepth 20000 in
theorem c_mo_dry (G : tt_G) (st : tt_St) (a1 : Int32) (a2 : Int32) (a3 : Int32) (hI : mo_ok st) : tt_C y_mo_dry prog_7_method_45_code 4 (some .int) 7 166 G [.ref (tt_ad G 49), .int a1, .int a2, .int a3] st (some (.int (mo_dry st a1 a2 a3))) st := by
  refine tt_enter (α := Int32) (mk := fun r => (some (.int r), st)) (T := (mo_dry st a1 a2 a3)) (by decide +kernel) (Nat.le_of_ble_eq_true rfl) (fun κ hC hR => ?_)
  rw [mo_dry]
  refine r_aload_n 0 hC d_mo_dry_0 rfl ?_
  refine r_iload_n 1 hC d_mo_dry_1 rfl ?_
  refine r_callV (o := 49) (rest := []) (stk1 := [.int (mo_isPort st a1)]) hC d_mo_dry_2 (c_mo_isPort G st a1) mw_mo_isPort mi_mo_isPort mz_mo_isPort ml_mo_147 rfl rfl rfl rfl rfl (Nat.le_of_ble_eq_true rfl) rfl ?_
  refine r_if_ne (tgt := 14) hC d_mo_dry_5 (by decide) (fun c_5 => ?_) (fun c_5 => ?_)
  ·
    refine r_iload_n 2 hC d_mo_dry_14 rfl ?_
    refine r_callS (rest := []) (stk1 := [.int (mo_isDay a2)]) hC d_mo_dry_15 (c_mo_isDay G st a2) mw_mo_isDay ms_mo_isDay ml_mo_194 rfl rfl rfl (Nat.le_of_ble_eq_true rfl) rfl ?_
    refine r_if_eq (tgt := 38) hC d_mo_dry_18 (by decide) (fun c_18 => ?_) (fun c_18 => ?_)
    ·
      refine r_sipush (v := (-10102)) hC d_mo_dry_38 (by decide) ?_
      exact r_iret hC hR d_mo_dry_41 rfl rfl
    ·
      refine r_iload_n 3 hC d_mo_dry_21 rfl ?_
      refine r_callS (rest := []) (stk1 := [.int (mo_isNeed a3)]) hC d_mo_dry_22 (c_mo_isNeed G st a3) mw_mo_isNeed ms_mo_isNeed ml_mo_201 rfl rfl rfl (Nat.le_of_ble_eq_true rfl) rfl ?_
      refine r_if_eq (tgt := 38) hC d_mo_dry_25 (by decide) (fun c_25 => ?_) (fun c_25 => ?_)
      ·
        refine r_sipush (v := (-10102)) hC d_mo_dry_38 (by decide) ?_
        exact r_iret hC hR d_mo_dry_41 rfl rfl
      ·
        refine r_aload_n 0 hC d_mo_dry_28 rfl ?_
        refine r_iload_n 1 hC d_mo_dry_29 rfl ?_
        refine r_iload_n 2 hC d_mo_dry_30 rfl ?_
        refine r_iload_n 3 hC d_mo_dry_31 rfl ?_
        refine r_callV (o := 49) (rest := []) (stk1 := [.int (mo_dryNow st a1 a2 a3)]) hC d_mo_dry_32 (c_mo_dryNow G st a1 a2 a3 hI (mo_isPort_in hI c_5) (mo_isDay_in c_18)) mw_mo_dryNow mi_mo_dryNow mz_mo_dryNow ml_mo_208 rfl rfl rfl rfl rfl (Nat.le_of_ble_eq_true rfl) rfl ?_
        refine r_goto (tgt := 41) hC d_mo_dry_35 (by decide) ?_
        exact r_iret hC hR d_mo_dry_41 rfl rfl
  ·
    refine r_sipush (v := (-10101)) hC d_mo_dry_8 (by decide) ?_
    refine r_goto (tgt := 41) hC d_mo_dry_11 (by decide) ?_
    exact r_iret hC hR d_mo_dry_41 rfl rfl
/-! TideTableModel.streamAt(III)I -/
def mo_streamAt (st : tt_St) (a1 : Int32) (a2 : Int32) (a3 : Int32) : Int32 := ((mo_heightAt st a1 a3) - (mo_heightAt st a2 a3))
set_option maxHeartbeats 4000000 in
set_option maxRecDepth 20000 in
theorem c_mo_streamAt (G : tt_G) (st : tt_St) (a1 : Int32) (a2 : Int32) (a3 : Int32) (hI : mo_ok st) (hp : vp_in a1 4) (hp2 : vp_in a2 4) : tt_C y_mo_streamAt prog_7_method_46_code 4 (some .int) 6 141 G [.ref (tt_ad G 49), .int a1, .int a2, .int a3] st (some (.int (mo_streamAt st a1 a2 a3))) st := by
  refine tt_enter (α := Int32) (mk := fun r => (some (.int r), st)) (T := (mo_streamAt st a1 a2 a3)) (by decide +kernel) (Nat.le_of_ble_eq_true rfl) (fun κ hC hR => ?_)
  rw [mo_streamAt]
  refine r_aload_n 0 hC d_mo_streamAt_0 rfl ?_
  refine r_iload_n 1 hC d_mo_streamAt_1 rfl ?_
  refine r_iload_n 3 hC d_mo_streamAt_2 rfl ?_
  refine r_callV (o := 49) (rest := []) (stk1 := [.int (mo_heightAt st a1 a3)]) hC d_mo_streamAt_3 (c_mo_heightAt G st a1 a3 hI hp) mw_mo_heightAt mi_mo_heightAt mz_mo_heightAt ml_mo_185 rfl rfl rfl rfl rfl (Nat.le_of_ble_eq_true rfl) rfl ?_
  refine r_aload_n 0 hC d_mo_streamAt_6 rfl ?_
  refine r_iload_n 2 hC d_mo_streamAt_7 rfl ?_
  refine r_iload_n 3 hC d_mo_streamAt_8 rfl ?_
  refine r_callV (o := 49) (rest := [.int (mo_heightAt st a1 a3)]) (stk1 := [.int (mo_heightAt st a2 a3), .int (mo_heightAt st a1 a3)]) hC d_mo_streamAt_9 (c_mo_heightAt G st a2 a3 hI hp2) mw_mo_heightAt mi_mo_heightAt mz_mo_heightAt ml_mo_185 rfl rfl rfl rfl rfl (Nat.le_of_ble_eq_true rfl) rfl ?_
  refine r_isub hC d_mo_streamAt_12 ?_
  exact r_iret hC hR d_mo_streamAt_13 rfl rfl
/-! TideTableModel.stream(III)I -/
def mo_stream (st : tt_St) (a1 : Int32) (a2 : Int32) (a3 : Int32) : Int32 := (if (mo_isPort st a1) = 0 then (-10101) else (if (mo_isPort st a2) = 0 then (-10101) else (if (mo_isTick a3) = 0 then (-10102) else (mo_streamAt st a1 a2 a3))))
set_option maxHeartbeats 4000000 in
set_option maxRecDepth 20000 in
theorem c_mo_stream (G : tt_G) (st : tt_St) (a1 : Int32) (a2 : Int32) (a3 : Int32) (hI : mo_ok st) : tt_C y_mo_stream prog_7_method_47_code 4 (some .int) 7 164 G [.ref (tt_ad G 49), .int a1, .int a2, .int a3] st (some (.int (mo_stream st a1 a2 a3))) st := by
  refine tt_enter (α := Int32) (mk := fun r => (some (.int r), st)) (T := (mo_stream st a1 a2 a3)) (by decide +kernel) (Nat.le_of_ble_eq_true rfl) (fun κ hC hR => ?_)
  rw [mo_stream]
  refine r_aload_n 0 hC d_mo_stream_0 rfl ?_
  refine r_iload_n 1 hC d_mo_stream_1 rfl ?_
  refine r_callV (o := 49) (rest := []) (stk1 := [.int (mo_isPort st a1)]) hC d_mo_stream_2 (c_mo_isPort G st a1) mw_mo_isPort mi_mo_isPort mz_mo_isPort ml_mo_147 rfl rfl rfl rfl rfl (Nat.le_of_ble_eq_true rfl) rfl ?_
  refine r_if_eq (tgt := 16) hC d_mo_stream_5 (by decide) (fun c_5 => ?_) (fun c_5 => ?_)
  ·
    refine r_sipush (v := (-10101)) hC d_mo_stream_16 (by decide) ?_
    refine r_goto (tgt := 42) hC d_mo_stream_19 (by decide) ?_
    exact r_iret hC hR d_mo_stream_42 rfl rfl
  ·
    refine r_aload_n 0 hC d_mo_stream_8 rfl ?_
    refine r_iload_n 2 hC d_mo_stream_9 rfl ?_
    refine r_callV (o := 49) (rest := []) (stk1 := [.int (mo_isPort st a2)]) hC d_mo_stream_10 (c_mo_isPort G st a2) mw_mo_isPort mi_mo_isPort mz_mo_isPort ml_mo_147 rfl rfl rfl rfl rfl (Nat.le_of_ble_eq_true rfl) rfl ?_
    refine r_if_ne (tgt := 22) hC d_mo_stream_13 (by decide) (fun c_13 => ?_) (fun c_13 => ?_)
    ·
      refine r_iload_n 3 hC d_mo_stream_22 rfl ?_
      refine r_callS (rest := []) (stk1 := [.int (mo_isTick a3)]) hC d_mo_stream_23 (c_mo_isTick G st a3) mw_mo_isTick ms_mo_isTick ml_mo_182 rfl rfl rfl (Nat.le_of_ble_eq_true rfl) rfl ?_
      refine r_if_eq (tgt := 39) hC d_mo_stream_26 (by decide) (fun c_26 => ?_) (fun c_26 => ?_)
      ·
        refine r_sipush (v := (-10102)) hC d_mo_stream_39 (by decide) ?_
        exact r_iret hC hR d_mo_stream_42 rfl rfl
      ·
        refine r_aload_n 0 hC d_mo_stream_29 rfl ?_
        refine r_iload_n 1 hC d_mo_stream_30 rfl ?_
        refine r_iload_n 2 hC d_mo_stream_31 rfl ?_
        refine r_iload_n 3 hC d_mo_stream_32 rfl ?_
        refine r_callV (o := 49) (rest := []) (stk1 := [.int (mo_streamAt st a1 a2 a3)]) hC d_mo_stream_33 (c_mo_streamAt G st a1 a2 a3 hI (mo_isPort_in hI c_5) (mo_isPort_in hI c_13)) mw_mo_streamAt mi_mo_streamAt mz_mo_streamAt ml_mo_211 rfl rfl rfl rfl rfl (Nat.le_of_ble_eq_true rfl) rfl ?_
        refine r_goto (tgt := 42) hC d_mo_stream_36 (by decide) ?_
        exact r_iret hC hR d_mo_stream_42 rfl rfl
    ·
      refine r_sipush (v := (-10101)) hC d_mo_stream_16 (by decide) ?_
      refine r_goto (tgt := 42) hC d_mo_stream_19 (by decide) ?_
      exact r_iret hC hR d_mo_stream_42 rfl rfl
/-! TideTableModel.slackNow(III)I -/
def mo_slackNow_l3 (st : tt_St) (a1 : Int32) (a2 : Int32) (a3 : Int32) : Nat → Nat → Int32
  | 0, j => (-10001)
  | n + 1, j => (if (mo_streamAt st a1 a2 (a3 + nI j)) = 0 then (a3 + nI j) else (if (mo_streamAt st a1 a2 (a3 + nI j)) ≤ 0 then (if 0 ≤ (mo_streamAt st a1 a2 (a3 + nI j)) then (mo_slackNow_l3 st a1 a2 a3 n (j + 1)) else (if (mo_streamAt st a1 a2 ((a3 + nI j) - 1)) ≤ 0 then (mo_slackNow_l3 st a1 a2 a3 n (j + 1)) else (a3 + nI j))) else (if (mo_streamAt st a1 a2 ((a3 + nI j) - 1)) < 0 then (a3 + nI j) else (if 0 ≤ (mo_streamAt st a1 a2 (a3 + nI j)) then (mo_slackNow_l3 st a1 a2 a3 n (j + 1)) else (if (mo_streamAt st a1 a2 ((a3 + nI j) - 1)) ≤ 0 then (mo_slackNow_l3 st a1 a2 a3 n (j + 1)) else (a3 + nI j))))))
set_option maxHeartbeats 4000000 in
set_option maxRecDepth 20000 in
theorem l_mo_slackNow_3 {G : tt_G} {κ : tt_X (Int32)} (hC : tt_Cx G κ prog_7_method_48_code "TideTableModel" 7 7 164) (st : tt_St) (a1 : Int32) (a2 : Int32) (a3 : Int32)  (hR : tt_Rt G κ (some .int) (fun r => (some (.int r), st))) (hI : mo_ok st) (hp : vp_in a1 4) (hp2 : vp_in a2 4) (ht : vp_in a3 1440) : ∀ (n j : Nat), j + n = 144 → tt_V G κ (mo_slackNow_l3 st a1 a2 a3 n j) st 3 [(0, .ref (tt_ad G 49)), (1, .int a1), (2, .int a2), (3, .int a3), (4, .int (a3 + nI j))] [] := by
  intro n
  induction n with
  | zero =>
    intro j hj
    rw [mo_slackNow_l3]
    refine r_iload 4 hC d_mo_slackNow_3 rfl ?_
    refine r_iload_n 3 hC d_mo_slackNow_5 rfl ?_
    refine r_sipush (v := 144) hC d_mo_slackNow_6 (by decide) ?_
    refine r_iadd hC d_mo_slackNow_9 ?_
    refine t_icmp_ge (tgt := 69) hC d_mo_slackNow_10 (by decide) (tt_offE ht (by omega) (by omega)) ?_
    refine r_sipush (v := (-10001)) hC d_mo_slackNow_69 (by decide) ?_
    exact r_iret hC hR d_mo_slackNow_72 rfl rfl
  | succ n ih =>
    intro j hj
    rw [mo_slackNow_l3]
    refine r_iload 4 hC d_mo_slackNow_3 rfl ?_
    refine r_iload_n 3 hC d_mo_slackNow_5 rfl ?_
    refine r_sipush (v := 144) hC d_mo_slackNow_6 (by decide) ?_
    refine r_iadd hC d_mo_slackNow_9 ?_
    refine f_icmp_ge (tgt := 69) hC d_mo_slackNow_10 (by decide) (tt_offS ht (by omega)) ?_
    refine r_aload_n 0 hC d_mo_slackNow_13 rfl ?_
    refine r_iload_n 1 hC d_mo_slackNow_14 rfl ?_
    refine r_iload_n 2 hC d_mo_slackNow_15 rfl ?_
    refine r_iload 4 hC d_mo_slackNow_16 rfl ?_
    refine r_callV (o := 49) (rest := []) (stk1 := [.int (mo_streamAt st a1 a2 (a3 + nI j))]) hC d_mo_slackNow_18 (c_mo_streamAt G st a1 a2 (a3 + nI j) hI hp hp2) mw_mo_streamAt mi_mo_streamAt mz_mo_streamAt ml_mo_211 rfl rfl rfl rfl rfl (Nat.le_of_ble_eq_true rfl) rfl ?_
    refine r_istore [(5, .int (mo_streamAt st a1 a2 (a3 + nI j))), (0, .ref (tt_ad G 49)), (1, .int a1), (2, .int a2), (3, .int a3), (4, .int (a3 + nI j))] hC d_mo_slackNow_21 (by decide) rfl ?_
    refine r_aload_n 1 hC d_mo_slackNow_23 rfl ?_
    refine r_iload_n 2 hC d_mo_slackNow_24 rfl ?_
    refine r_iload_n 3 hC d_mo_slackNow_25 rfl ?_
    refine r_iload 5 hC d_mo_slackNow_26 rfl ?_
    refine r_iconst (v := 1) hC d_mo_slackNow_28 (by decide) ?_
    refine r_isub hC d_mo_slackNow_29 ?_
    refine r_callV (o := 49) (rest := []) (stk1 := [.int (mo_streamAt st a1 a2 ((a3 + nI j) - 1))]) hC d_mo_slackNow_30 (c_mo_streamAt G st a1 a2 ((a3 + nI j) - 1) hI hp hp2) mw_mo_streamAt mi_mo_streamAt mz_mo_streamAt ml_mo_211 rfl rfl rfl rfl rfl (Nat.le_of_ble_eq_true rfl) rfl ?_
    refine r_istore [(6, .int (mo_streamAt st a1 a2 ((a3 + nI j) - 1))), (5, .int (mo_streamAt st a1 a2 (a3 + nI j))), (0, .ref (tt_ad G 49)), (1, .int a1), (2, .int a2), (3, .int a3), (4, .int (a3 + nI j))] hC d_mo_slackNow_33 (by decide) rfl ?_
    refine r_iload 1 hC d_mo_slackNow_35 rfl ?_
    refine r_if_eq (tgt := 60) hC d_mo_slackNow_37 (by decide) (fun c_37 => ?_) (fun c_37 => ?_)
    ·
      refine r_iload 6 hC d_mo_slackNow_60 rfl ?_
      exact r_iret hC hR d_mo_slackNow_62 rfl rfl
    ·
      refine r_iload 1 hC d_mo_slackNow_40 rfl ?_
      refine r_if_le (tgt := 50) hC d_mo_slackNow_42 (by decide) (fun c_42 => ?_) (fun c_42 => ?_)
      ·
        refine r_iload 1 hC d_mo_slackNow_50 rfl ?_
        refine r_if_ge (tgt := 63) hC d_mo_slackNow_52 (by decide) (fun c_52 => ?_) (fun c_52 => ?_)
        ·
          refine r_iinc 6 (a3 + nI (j + 1)) [(4, .int (a3 + nI (j + 1))), (6, .int (mo_streamAt st a1 a2 ((a3 + nI j) - 1))), (5, .int (mo_streamAt st a1 a2 (a3 + nI j))), (0, .ref (tt_ad G 49)), (1, .int a1), (2, .int a2), (3, .int a3)] hC d_mo_slackNow_63 rfl (by rw [nI_succ, ← Int32.add_assoc]; rfl) (by decide) rfl ?_
          refine r_goto (tgt := 3) hC d_mo_slackNow_66 (by decide) ?_
          exact tt_cast [3, 4, 5, 6, 0] rfl rfl (ih (j + 1) (by omega))
        ·
          refine r_iload 0 hC d_mo_slackNow_55 rfl ?_
          refine r_if_le (tgt := 63) hC d_mo_slackNow_57 (by decide) (fun c_57 => ?_) (fun c_57 => ?_)
          ·
            refine r_iinc 6 (a3 + nI (j + 1)) [(4, .int (a3 + nI (j + 1))), (6, .int (mo_streamAt st a1 a2 ((a3 + nI j) - 1))), (5, .int (mo_streamAt st a1 a2 (a3 + nI j))), (0, .ref (tt_ad G 49)), (1, .int a1), (2, .int a2), (3, .int a3)] hC d_mo_slackNow_63 rfl (by rw [nI_succ, ← Int32.add_assoc]; rfl) (by decide) rfl ?_
            refine r_goto (tgt := 3) hC d_mo_slackNow_66 (by decide) ?_
            exact tt_cast [3, 4, 5, 6, 0] rfl rfl (ih (j + 1) (by omega))
          ·
            refine r_iload 6 hC d_mo_slackNow_60 rfl ?_
            exact r_iret hC hR d_mo_slackNow_62 rfl rfl
      ·
        refine r_iload 0 hC d_mo_slackNow_45 rfl ?_
        refine r_if_lt (tgt := 60) hC d_mo_slackNow_47 (by decide) (fun c_47 => ?_) (fun c_47 => ?_)
        ·
          refine r_iload 6 hC d_mo_slackNow_60 rfl ?_
          exact r_iret hC hR d_mo_slackNow_62 rfl rfl
        ·
          refine r_iload 1 hC d_mo_slackNow_50 rfl ?_
          refine r_if_ge (tgt := 63) hC d_mo_slackNow_52 (by decide) (fun c_52 => ?_) (fun c_52 => ?_)
          ·
            refine r_iinc 6 (a3 + nI (j + 1)) [(4, .int (a3 + nI (j + 1))), (6, .int (mo_streamAt st a1 a2 ((a3 + nI j) - 1))), (5, .int (mo_streamAt st a1 a2 (a3 + nI j))), (0, .ref (tt_ad G 49)), (1, .int a1), (2, .int a2), (3, .int a3)] hC d_mo_slackNow_63 rfl (by rw [nI_succ, ← Int32.add_assoc]; rfl) (by decide) rfl ?_
            refine r_goto (tgt := 3) hC d_mo_slackNow_66 (by decide) ?_
            exact tt_cast [3, 4, 5, 6, 0] rfl rfl (ih (j + 1) (by omega))
          ·
            refine r_iload 0 hC d_mo_slackNow_55 rfl ?_
            refine r_if_le (tgt := 63) hC d_mo_slackNow_57 (by decide) (fun c_57 => ?_) (fun c_57 => ?_)
            ·
              refine r_iinc 6 (a3 + nI (j + 1)) [(4, .int (a3 + nI (j + 1))), (6, .int (mo_streamAt st a1 a2 ((a3 + nI j) - 1))), (5, .int (mo_streamAt st a1 a2 (a3 + nI j))), (0, .ref (tt_ad G 49)), (1, .int a1), (2, .int a2), (3, .int a3)] hC d_mo_slackNow_63 rfl (by rw [nI_succ, ← Int32.add_assoc]; rfl) (by decide) rfl ?_
              refine r_goto (tgt := 3) hC d_mo_slackNow_66 (by decide) ?_
              exact tt_cast [3, 4, 5, 6, 0] rfl rfl (ih (j + 1) (by omega))
            ·
              refine r_iload 6 hC d_mo_slackNow_60 rfl ?_
              exact r_iret hC hR d_mo_slackNow_62 rfl rfl
def mo_slackNow (st : tt_St) (a1 : Int32) (a2 : Int32) (a3 : Int32) : Int32 := (mo_slackNow_l3 st a1 a2 a3 144 0)
set_option maxHeartbeats 4000000 in
set_option maxRecDepth 20000 in
theorem c_mo_slackNow (G : tt_G) (st : tt_St) (a1 : Int32) (a2 : Int32) (a3 : Int32) (hI : mo_ok st) (hp : vp_in a1 4) (hp2 : vp_in a2 4) (ht : vp_in a3 1440) : tt_C y_mo_slackNow prog_7_method_48_code 7 (some .int) 7 164 G [.ref (tt_ad G 49), .int a1, .int a2, .int a3] st (some (.int (mo_slackNow st a1 a2 a3))) st := by
  refine tt_enter (α := Int32) (mk := fun r => (some (.int r), st)) (T := (mo_slackNow st a1 a2 a3)) (by decide +kernel) (Nat.le_of_ble_eq_true rfl) (fun κ hC hR => ?_)
  rw [mo_slackNow]
  refine r_iload_n 3 hC d_mo_slackNow_0 rfl ?_
  refine r_istore [(4, .int a3), (0, .ref (tt_ad G 49)), (1, .int a1), (2, .int a2), (3, .int a3)] hC d_mo_slackNow_1 (by decide) rfl ?_
  exact tt_cast [1, 2, 3, 4, 0] (by simp only [nI_0, Int32.add_zero]; rfl) rfl (l_mo_slackNow_3 hC st a1 a2 a3 hR hI hp hp2 ht 144 0  (by omega))
/-! TideTableModel.slack(III)I -/
def mo_slack (st : tt_St) (a1 : Int32) (a2 : Int32) (a3 : Int32) : Int32 := (if (mo_isPort st a1) = 0 then (-10101) else (if (mo_isPort st a2) = 0 then (-10101) else (if (mo_isTick a3) = 0 then (-10102) else (mo_slackNow st a1 a2 a3))))
set_option maxHeartbeats 4000000 in
set_option maxRecDepth 20000 in
theorem c_mo_slack (G : tt_G) (st : tt_St) (a1 : Int32) (a2 : Int32) (a3 : Int32) (hI : mo_ok st) : tt_C y_mo_slack prog_7_method_49_code 4 (some .int) 8 190 G [.ref (tt_ad G 49), .int a1, .int a2, .int a3] st (some (.int (mo_slack st a1 a2 a3))) st := by
  refine tt_enter (α := Int32) (mk := fun r => (some (.int r), st)) (T := (mo_slack st a1 a2 a3)) (by decide +kernel) (Nat.le_of_ble_eq_true rfl) (fun κ hC hR => ?_)
  rw [mo_slack]
  refine r_aload_n 0 hC d_mo_slack_0 rfl ?_
  refine r_iload_n 1 hC d_mo_slack_1 rfl ?_
  refine r_callV (o := 49) (rest := []) (stk1 := [.int (mo_isPort st a1)]) hC d_mo_slack_2 (c_mo_isPort G st a1) mw_mo_isPort mi_mo_isPort mz_mo_isPort ml_mo_147 rfl rfl rfl rfl rfl (Nat.le_of_ble_eq_true rfl) rfl ?_
  refine r_if_eq (tgt := 16) hC d_mo_slack_5 (by decide) (fun c_5 => ?_) (fun c_5 => ?_)
  ·
    refine r_sipush (v := (-10101)) hC d_mo_slack_16 (by decide) ?_
    refine r_goto (tgt := 42) hC d_mo_slack_19 (by decide) ?_
    exact r_iret hC hR d_mo_slack_42 rfl rfl
  ·
    refine r_aload_n 0 hC d_mo_slack_8 rfl ?_
    refine r_iload_n 2 hC d_mo_slack_9 rfl ?_
    refine r_callV (o := 49) (rest := []) (stk1 := [.int (mo_isPort st a2)]) hC d_mo_slack_10 (c_mo_isPort G st a2) mw_mo_isPort mi_mo_isPort mz_mo_isPort ml_mo_147 rfl rfl rfl rfl rfl (Nat.le_of_ble_eq_true rfl) rfl ?_
    refine r_if_ne (tgt := 22) hC d_mo_slack_13 (by decide) (fun c_13 => ?_) (fun c_13 => ?_)
    ·
      refine r_iload_n 3 hC d_mo_slack_22 rfl ?_
      refine r_callS (rest := []) (stk1 := [.int (mo_isTick a3)]) hC d_mo_slack_23 (c_mo_isTick G st a3) mw_mo_isTick ms_mo_isTick ml_mo_182 rfl rfl rfl (Nat.le_of_ble_eq_true rfl) rfl ?_
      refine r_if_eq (tgt := 39) hC d_mo_slack_26 (by decide) (fun c_26 => ?_) (fun c_26 => ?_)
      ·
        refine r_sipush (v := (-10102)) hC d_mo_slack_39 (by decide) ?_
        exact r_iret hC hR d_mo_slack_42 rfl rfl
      ·
        refine r_aload_n 0 hC d_mo_slack_29 rfl ?_
        refine r_iload_n 1 hC d_mo_slack_30 rfl ?_
        refine r_iload_n 2 hC d_mo_slack_31 rfl ?_
        refine r_iload_n 3 hC d_mo_slack_32 rfl ?_
        refine r_callV (o := 49) (rest := []) (stk1 := [.int (mo_slackNow st a1 a2 a3)]) hC d_mo_slack_33 (c_mo_slackNow G st a1 a2 a3 hI (mo_isPort_in hI c_5) (mo_isPort_in hI c_13) (mo_isTick_in c_26)) mw_mo_slackNow mi_mo_slackNow mz_mo_slackNow ml_mo_214 rfl rfl rfl rfl rfl (Nat.le_of_ble_eq_true rfl) rfl ?_
        refine r_goto (tgt := 42) hC d_mo_slack_36 (by decide) ?_
        exact r_iret hC hR d_mo_slack_42 rfl rfl
    ·
      refine r_sipush (v := (-10101)) hC d_mo_slack_16 (by decide) ?_
      refine r_goto (tgt := 42) hC d_mo_slack_19 (by decide) ?_
      exact r_iret hC hR d_mo_slack_42 rfl rfl
/-! TideTableModel.tripNow(IIII)I -/
def mo_tripNow_l6 (st : tt_St) (a1 : Int32) (a2 : Int32) (a3 : Int32) (a4 : Int32) : Nat → Nat → Int32 → Int32
  | 0, j, x5 => (-10001)
  | n + 1, j, x5 => (if (x5 + (if (a4 + (mo_by (mo_streamAt st a1 a2 (a3 + (nI j))) 20)) ≤ 0 then 0 else (a4 + (mo_by (mo_streamAt st a1 a2 (a3 + (nI j))) 20)) : Int32)) < 300 then (mo_tripNow_l6 st a1 a2 a3 a4 n (j + 1) (x5 + (if (a4 + (mo_by (mo_streamAt st a1 a2 (a3 + (nI j))) 20)) ≤ 0 then 0 else (a4 + (mo_by (mo_streamAt st a1 a2 (a3 + (nI j))) 20)) : Int32))) else ((nI j) + 1))
set_option maxHeartbeats 4000000 in
set_option maxRecDepth 20000 in
theorem l_mo_tripNow_6 {G : tt_G} {κ : tt_X (Int32)} (hC : tt_Cx G κ prog_7_method_50_code "TideTableModel" 8 7 164) (st : tt_St) (a1 : Int32) (a2 : Int32) (a3 : Int32) (a4 : Int32)  (hR : tt_Rt G κ (some .int) (fun r => (some (.int r), st))) (hI : mo_ok st) (hp : vp_in a1 4) (hp2 : vp_in a2 4) : ∀ (n j : Nat) (x5 : Int32), j + n = 200 → tt_V G κ (mo_tripNow_l6 st a1 a2 a3 a4 n j x5) st 6 [(0, .ref (tt_ad G 49)), (1, .int a1), (2, .int a2), (3, .int a3), (4, .int a4), (5, .int x5), (6, .int (nI j))] [] := by
  intro n
  induction n with
  | zero =>
    intro j x5 hj
    rw [mo_tripNow_l6]
    refine r_iload 6 hC d_mo_tripNow_6 rfl ?_
    refine r_sipush (v := 200) hC d_mo_tripNow_8 (by decide) ?_
    refine t_icmp_ge (tgt := 69) hC d_mo_tripNow_11 (by decide) (nI_le (a := 200) (by omega) (by omega)) ?_
    refine r_sipush (v := (-10001)) hC d_mo_tripNow_69 (by decide) ?_
    exact r_iret hC hR d_mo_tripNow_72 rfl rfl
  | succ n ih =>
    intro j x5 hj
    rw [mo_tripNow_l6]
    refine r_iload 6 hC d_mo_tripNow_6 rfl ?_
    refine r_sipush (v := 200) hC d_mo_tripNow_8 (by decide) ?_
    refine f_icmp_ge (tgt := 69) hC d_mo_tripNow_11 (by decide) (nI_ge (a := j) (b := 200) (by omega) (by omega)) ?_
    refine r_iload 4 hC d_mo_tripNow_14 rfl ?_
    refine r_aload_n 0 hC d_mo_tripNow_16 rfl ?_
    refine r_iload_n 1 hC d_mo_tripNow_17 rfl ?_
    refine r_iload_n 2 hC d_mo_tripNow_18 rfl ?_
    refine r_iload_n 3 hC d_mo_tripNow_19 rfl ?_
    refine r_iload 6 hC d_mo_tripNow_20 rfl ?_
    refine r_iadd hC d_mo_tripNow_22 ?_
    refine r_callV (o := 49) (rest := [.int a4]) (stk1 := [.int (mo_streamAt st a1 a2 (a3 + (nI j))), .int a4]) hC d_mo_tripNow_23 (c_mo_streamAt G st a1 a2 (a3 + (nI j)) hI hp hp2) mw_mo_streamAt mi_mo_streamAt mz_mo_streamAt ml_mo_211 rfl rfl rfl rfl rfl (Nat.le_of_ble_eq_true rfl) rfl ?_
    refine r_bipush (v := 20) hC d_mo_tripNow_26 (by decide) ?_
    refine r_callS (rest := [.int a4]) (stk1 := [.int (mo_by (mo_streamAt st a1 a2 (a3 + (nI j))) 20), .int a4]) hC d_mo_tripNow_28 (c_mo_by G st (mo_streamAt st a1 a2 (a3 + (nI j))) 20 (by decide)) mw_mo_by ms_mo_by ml_mo_167 rfl rfl rfl (Nat.le_of_ble_eq_true rfl) rfl ?_
    refine r_iadd hC d_mo_tripNow_31 ?_
    refine r_istore [(7, .int (a4 + (mo_by (mo_streamAt st a1 a2 (a3 + (nI j))) 20))), (0, .ref (tt_ad G 49)), (1, .int a1), (2, .int a2), (3, .int a3), (4, .int a4), (5, .int x5), (6, .int (nI j))] hC d_mo_tripNow_32 (by decide) rfl ?_
    refine r_iload 6 hC d_mo_tripNow_34 rfl ?_
    refine r_iload 0 hC d_mo_tripNow_36 rfl ?_
    refine tt_join 47 [(0, .ref (tt_ad G 49)), (1, .int a1), (2, .int a2), (3, .int a3), (4, .int a4), (6, .int (nI j))] [.int (if (a4 + (mo_by (mo_streamAt st a1 a2 (a3 + (nI j))) 20)) ≤ 0 then 0 else (a4 + (mo_by (mo_streamAt st a1 a2 (a3 + (nI j))) 20)) : Int32), .int x5] ?_ (fun kj_38 => ?_)
    ·
      refine r_iadd hC d_mo_tripNow_47 ?_
      refine r_istore [(5, .int (x5 + (if (a4 + (mo_by (mo_streamAt st a1 a2 (a3 + (nI j))) 20)) ≤ 0 then 0 else (a4 + (mo_by (mo_streamAt st a1 a2 (a3 + (nI j))) 20)) : Int32))), (0, .ref (tt_ad G 49)), (1, .int a1), (2, .int a2), (3, .int a3), (4, .int a4), (6, .int (nI j))] hC d_mo_tripNow_48 (by decide) rfl ?_
      refine r_iload 0 hC d_mo_tripNow_50 rfl ?_
      refine r_sipush (v := 300) hC d_mo_tripNow_52 (by decide) ?_
      refine r_icmp_lt (tgt := 63) hC d_mo_tripNow_55 (by decide) (fun c_55 => ?_) (fun c_55 => ?_)
      ·
        refine r_iinc 6 (nI (j + 1)) [(6, .int (nI (j + 1))), (5, .int (x5 + (if (a4 + (mo_by (mo_streamAt st a1 a2 (a3 + (nI j))) 20)) ≤ 0 then 0 else (a4 + (mo_by (mo_streamAt st a1 a2 (a3 + (nI j))) 20)) : Int32))), (0, .ref (tt_ad G 49)), (1, .int a1), (2, .int a2), (3, .int a3), (4, .int a4)] hC d_mo_tripNow_63 rfl (by rw [nI_succ]; rfl) (by decide) rfl ?_
        refine r_goto (tgt := 6) hC d_mo_tripNow_66 (by decide) ?_
        exact tt_cast [2, 3, 4, 5, 6, 1, 0] rfl rfl (ih (j + 1) (x5 + (if (a4 + (mo_by (mo_streamAt st a1 a2 (a3 + (nI j))) 20)) ≤ 0 then 0 else (a4 + (mo_by (mo_streamAt st a1 a2 (a3 + (nI j))) 20)) : Int32)) (by omega))
      ·
        refine r_iload 6 hC d_mo_tripNow_58 rfl ?_
        refine r_iconst (v := 1) hC d_mo_tripNow_60 (by decide) ?_
        refine r_iadd hC d_mo_tripNow_61 ?_
        exact r_iret hC hR d_mo_tripNow_62 rfl rfl
    ·
      refine j_if_le (tgt := 46) hC d_mo_tripNow_38 (by decide) (fun c_38 => ?_) (fun c_38 => ?_)
      ·
        refine r_iconst (v := 0) hC d_mo_tripNow_46 (by decide) ?_
        exact tt_cast [1, 2, 3, 4, 5, 7] rfl (by simp only [if_pos c_38]) kj_38
      ·
        refine r_iload 0 hC d_mo_tripNow_41 rfl ?_
        refine r_goto (tgt := 47) hC d_mo_tripNow_43 (by decide) ?_
        exact tt_cast [1, 2, 3, 4, 5, 7] rfl (by simp only [if_neg c_38]) kj_38
def mo_tripNow (st : tt_St) (a1 : Int32) (a2 : Int32) (a3 : Int32) (a4 : Int32) : Int32 := (mo_tripNow_l6 st a1 a2 a3 a4 200 0 0)
set_option maxHeartbeats 4000000 in
set_option maxRecDepth 20000 in
theorem c_mo_tripNow (G : tt_G) (st : tt_St) (a1 : Int32) (a2 : Int32) (a3 : Int32) (a4 : Int32) (hI : mo_ok st) (hp : vp_in a1 4) (hp2 : vp_in a2 4) : tt_C y_mo_tripNow prog_7_method_50_code 8 (some .int) 7 164 G [.ref (tt_ad G 49), .int a1, .int a2, .int a3, .int a4] st (some (.int (mo_tripNow st a1 a2 a3 a4))) st := by
  refine tt_enter (α := Int32) (mk := fun r => (some (.int r), st)) (T := (mo_tripNow st a1 a2 a3 a4)) (by decide +kernel) (Nat.le_of_ble_eq_true rfl) (fun κ hC hR => ?_)
  rw [mo_tripNow]
  refine r_iconst (v := 0) hC d_mo_tripNow_0 (by decide) ?_
  refine r_istore [(5, .int 0), (0, .ref (tt_ad G 49)), (1, .int a1), (2, .int a2), (3, .int a3), (4, .int a4)] hC d_mo_tripNow_1 (by decide) rfl ?_
  refine r_iconst (v := 0) hC d_mo_tripNow_3 (by decide) ?_
  refine r_istore [(6, .int 0), (5, .int 0), (0, .ref (tt_ad G 49)), (1, .int a1), (2, .int a2), (3, .int a3), (4, .int a4)] hC d_mo_tripNow_4 (by decide) rfl ?_
  exact tt_cast [2, 3, 4, 5, 6, 1, 0] rfl rfl (l_mo_tripNow_6 hC st a1 a2 a3 a4 hR hI hp hp2 200 0 0 (by omega))
/-! TideTableModel.trip(IIII)I -/
def mo_trip (st : tt_St) (a1 : Int32) (a2 : Int32) (a3 : Int32) (a4 : Int32) : Int32 := (if (mo_isPort st a1) = 0 then (-10101) else (if (mo_isPort st a2) = 0 then (-10101) else (if (mo_isTick a3) = 0 then (-10102) else (if (mo_isPace a4) = 0 then (-10102) else (mo_tripNow st a1 a2 a3 a4)))))
set_option maxHeartbeats 4000000 in
set_option maxRecDepth 20000 in
theorem c_mo_trip (G : tt_G) (st : tt_St) (a1 : Int32) (a2 : Int32) (a3 : Int32) (a4 : Int32) (hI : mo_ok st) : tt_C y_mo_trip prog_7_method_52_code 5 (some .int) 8 191 G [.ref (tt_ad G 49), .int a1, .int a2, .int a3, .int a4] st (some (.int (mo_trip st a1 a2 a3 a4))) st := by
  refine tt_enter (α := Int32) (mk := fun r => (some (.int r), st)) (T := (mo_trip st a1 a2 a3 a4)) (by decide +kernel) (Nat.le_of_ble_eq_true rfl) (fun κ hC hR => ?_)
  rw [mo_trip]
  refine r_aload_n 0 hC d_mo_trip_0 rfl ?_
  refine r_iload_n 1 hC d_mo_trip_1 rfl ?_
  refine r_callV (o := 49) (rest := []) (stk1 := [.int (mo_isPort st a1)]) hC d_mo_trip_2 (c_mo_isPort G st a1) mw_mo_isPort mi_mo_isPort mz_mo_isPort ml_mo_147 rfl rfl rfl rfl rfl (Nat.le_of_ble_eq_true rfl) rfl ?_
  refine r_if_eq (tgt := 16) hC d_mo_trip_5 (by decide) (fun c_5 => ?_) (fun c_5 => ?_)
  ·
    refine r_sipush (v := (-10101)) hC d_mo_trip_16 (by decide) ?_
    exact r_iret hC hR d_mo_trip_19 rfl rfl
  ·
    refine r_aload_n 0 hC d_mo_trip_8 rfl ?_
    refine r_iload_n 2 hC d_mo_trip_9 rfl ?_
    refine r_callV (o := 49) (rest := []) (stk1 := [.int (mo_isPort st a2)]) hC d_mo_trip_10 (c_mo_isPort G st a2) mw_mo_isPort mi_mo_isPort mz_mo_isPort ml_mo_147 rfl rfl rfl rfl rfl (Nat.le_of_ble_eq_true rfl) rfl ?_
    refine r_if_ne (tgt := 20) hC d_mo_trip_13 (by decide) (fun c_13 => ?_) (fun c_13 => ?_)
    ·
      refine r_iload_n 3 hC d_mo_trip_20 rfl ?_
      refine r_callS (rest := []) (stk1 := [.int (mo_isTick a3)]) hC d_mo_trip_21 (c_mo_isTick G st a3) mw_mo_isTick ms_mo_isTick ml_mo_182 rfl rfl rfl (Nat.le_of_ble_eq_true rfl) rfl ?_
      refine r_if_eq (tgt := 47) hC d_mo_trip_24 (by decide) (fun c_24 => ?_) (fun c_24 => ?_)
      ·
        refine r_sipush (v := (-10102)) hC d_mo_trip_47 (by decide) ?_
        exact r_iret hC hR d_mo_trip_50 rfl rfl
      ·
        refine r_iload 4 hC d_mo_trip_27 rfl ?_
        refine r_callS (rest := []) (stk1 := [.int (mo_isPace a4)]) hC d_mo_trip_29 (c_mo_isPace G st a4) mw_mo_isPace ms_mo_isPace ml_mo_217 rfl rfl rfl (Nat.le_of_ble_eq_true rfl) rfl ?_
        refine r_if_eq (tgt := 47) hC d_mo_trip_32 (by decide) (fun c_32 => ?_) (fun c_32 => ?_)
        ·
          refine r_sipush (v := (-10102)) hC d_mo_trip_47 (by decide) ?_
          exact r_iret hC hR d_mo_trip_50 rfl rfl
        ·
          refine r_aload_n 0 hC d_mo_trip_35 rfl ?_
          refine r_iload_n 1 hC d_mo_trip_36 rfl ?_
          refine r_iload_n 2 hC d_mo_trip_37 rfl ?_
          refine r_iload_n 3 hC d_mo_trip_38 rfl ?_
          refine r_iload 4 hC d_mo_trip_39 rfl ?_
          refine r_callV (o := 49) (rest := []) (stk1 := [.int (mo_tripNow st a1 a2 a3 a4)]) hC d_mo_trip_41 (c_mo_tripNow G st a1 a2 a3 a4 hI (mo_isPort_in hI c_5) (mo_isPort_in hI c_13)) mw_mo_tripNow mi_mo_tripNow mz_mo_tripNow ml_mo_220 rfl rfl rfl rfl rfl (Nat.le_of_ble_eq_true rfl) rfl ?_
          refine r_goto (tgt := 50) hC d_mo_trip_44 (by decide) ?_
          exact r_iret hC hR d_mo_trip_50 rfl rfl
    ·
      refine r_sipush (v := (-10101)) hC d_mo_trip_16 (by decide) ?_
      exact r_iret hC hR d_mo_trip_19 rfl rfl
/-! TideTableModel.leaveNow(IIIII)I -/
def mo_leaveNow_l7 (st : tt_St) (a1 : Int32) (a2 : Int32) (a3 : Int32) (a4 : Int32) (a5 : Int32) : Nat → Nat → Int32
  | 0, j => (-10001)
  | n + 1, j => (if (mo_tripNow st a1 a2 ((144 * a3) + nI j) a4) = (-10001) then (mo_leaveNow_l7 st a1 a2 a3 a4 a5 n (j + 1)) else (if (mo_heightAt st a2 (((144 * a3) + nI j) + (mo_tripNow st a1 a2 ((144 * a3) + nI j) a4))) < a5 then (mo_leaveNow_l7 st a1 a2 a3 a4 a5 n (j + 1)) else ((144 * a3) + nI j)))
set_option maxHeartbeats 4000000 in
set_option maxRecDepth 20000 in
theorem l_mo_leaveNow_7 {G : tt_G} {κ : tt_X (Int32)} (hC : tt_Cx G κ prog_7_method_53_code "TideTableModel" 8 8 191) (st : tt_St) (a1 : Int32) (a2 : Int32) (a3 : Int32) (a4 : Int32) (a5 : Int32)  (hR : tt_Rt G κ (some .int) (fun r => (some (.int r), st))) (hI : mo_ok st) (hp : vp_in a1 4) (hp2 : vp_in a2 4) (hd : vp_in a3 10) : ∀ (n j : Nat), j + n = 144 → tt_V G κ (mo_leaveNow_l7 st a1 a2 a3 a4 a5 n j) st 7 [(0, .ref (tt_ad G 49)), (1, .int a1), (2, .int a2), (3, .int a3), (4, .int a4), (5, .int a5), (6, .int ((144 * a3) + nI j))] [] := by
  intro n
  induction n with
  | zero =>
    intro j hj
    rw [mo_leaveNow_l7]
    refine r_iload 6 hC d_mo_leaveNow_7 rfl ?_
    refine r_sipush (v := 144) hC d_mo_leaveNow_9 (by decide) ?_
    refine r_iload_n 3 hC d_mo_leaveNow_12 rfl ?_
    refine r_iconst (v := 1) hC d_mo_leaveNow_13 (by decide) ?_
    refine r_iadd hC d_mo_leaveNow_14 ?_
    refine r_imul hC d_mo_leaveNow_15 ?_
    refine t_icmp_ge (tgt := 63) hC d_mo_leaveNow_16 (by decide) (tt_dayE hd (by omega) (by omega)) ?_
    refine r_sipush (v := (-10001)) hC d_mo_leaveNow_63 (by decide) ?_
    exact r_iret hC hR d_mo_leaveNow_66 rfl rfl
  | succ n ih =>
    intro j hj
    rw [mo_leaveNow_l7]
    refine r_iload 6 hC d_mo_leaveNow_7 rfl ?_
    refine r_sipush (v := 144) hC d_mo_leaveNow_9 (by decide) ?_
    refine r_iload_n 3 hC d_mo_leaveNow_12 rfl ?_
    refine r_iconst (v := 1) hC d_mo_leaveNow_13 (by decide) ?_
    refine r_iadd hC d_mo_leaveNow_14 ?_
    refine r_imul hC d_mo_leaveNow_15 ?_
    refine f_icmp_ge (tgt := 63) hC d_mo_leaveNow_16 (by decide) (tt_dayS hd (by omega)) ?_
    refine r_aload_n 0 hC d_mo_leaveNow_19 rfl ?_
    refine r_iload_n 1 hC d_mo_leaveNow_20 rfl ?_
    refine r_iload_n 2 hC d_mo_leaveNow_21 rfl ?_
    refine r_iload 6 hC d_mo_leaveNow_22 rfl ?_
    refine r_iload 4 hC d_mo_leaveNow_24 rfl ?_
    refine r_callV (o := 49) (rest := []) (stk1 := [.int (mo_tripNow st a1 a2 ((144 * a3) + nI j) a4)]) hC d_mo_leaveNow_26 (c_mo_tripNow G st a1 a2 ((144 * a3) + nI j) a4 hI hp hp2) mw_mo_tripNow mi_mo_tripNow mz_mo_tripNow ml_mo_220 rfl rfl rfl rfl rfl (Nat.le_of_ble_eq_true rfl) rfl ?_
    refine r_istore [(7, .int (mo_tripNow st a1 a2 ((144 * a3) + nI j) a4)), (0, .ref (tt_ad G 49)), (1, .int a1), (2, .int a2), (3, .int a3), (4, .int a4), (5, .int a5), (6, .int ((144 * a3) + nI j))] hC d_mo_leaveNow_29 (by decide) rfl ?_
    refine r_iload 0 hC d_mo_leaveNow_31 rfl ?_
    refine r_sipush (v := (-10001)) hC d_mo_leaveNow_33 (by decide) ?_
    refine r_icmp_eq (tgt := 57) hC d_mo_leaveNow_36 (by decide) (fun c_36 => ?_) (fun c_36 => ?_)
    ·
      refine r_iinc 7 ((144 * a3) + nI (j + 1)) [(6, .int ((144 * a3) + nI (j + 1))), (7, .int (mo_tripNow st a1 a2 ((144 * a3) + nI j) a4)), (0, .ref (tt_ad G 49)), (1, .int a1), (2, .int a2), (3, .int a3), (4, .int a4), (5, .int a5)] hC d_mo_leaveNow_57 rfl (by rw [nI_succ, ← Int32.add_assoc]; rfl) (by decide) rfl ?_
      refine r_goto (tgt := 7) hC d_mo_leaveNow_60 (by decide) ?_
      exact tt_cast [2, 3, 4, 5, 6, 7, 0] rfl rfl (ih (j + 1) (by omega))
    ·
      refine r_aload_n 1 hC d_mo_leaveNow_39 rfl ?_
      refine r_iload_n 3 hC d_mo_leaveNow_40 rfl ?_
      refine r_iload 7 hC d_mo_leaveNow_41 rfl ?_
      refine r_iload 0 hC d_mo_leaveNow_43 rfl ?_
      refine r_iadd hC d_mo_leaveNow_45 ?_
      refine r_callV (o := 49) (rest := []) (stk1 := [.int (mo_heightAt st a2 (((144 * a3) + nI j) + (mo_tripNow st a1 a2 ((144 * a3) + nI j) a4)))]) hC d_mo_leaveNow_46 (c_mo_heightAt G st a2 (((144 * a3) + nI j) + (mo_tripNow st a1 a2 ((144 * a3) + nI j) a4)) hI hp2) mw_mo_heightAt mi_mo_heightAt mz_mo_heightAt ml_mo_185 rfl rfl rfl rfl rfl (Nat.le_of_ble_eq_true rfl) rfl ?_
      refine r_iload 6 hC d_mo_leaveNow_49 rfl ?_
      refine r_icmp_lt (tgt := 57) hC d_mo_leaveNow_51 (by decide) (fun c_51 => ?_) (fun c_51 => ?_)
      ·
        refine r_iinc 7 ((144 * a3) + nI (j + 1)) [(6, .int ((144 * a3) + nI (j + 1))), (7, .int (mo_tripNow st a1 a2 ((144 * a3) + nI j) a4)), (0, .ref (tt_ad G 49)), (1, .int a1), (2, .int a2), (3, .int a3), (4, .int a4), (5, .int a5)] hC d_mo_leaveNow_57 rfl (by rw [nI_succ, ← Int32.add_assoc]; rfl) (by decide) rfl ?_
        refine r_goto (tgt := 7) hC d_mo_leaveNow_60 (by decide) ?_
        exact tt_cast [2, 3, 4, 5, 6, 7, 0] rfl rfl (ih (j + 1) (by omega))
      ·
        refine r_iload 7 hC d_mo_leaveNow_54 rfl ?_
        exact r_iret hC hR d_mo_leaveNow_56 rfl rfl
def mo_leaveNow (st : tt_St) (a1 : Int32) (a2 : Int32) (a3 : Int32) (a4 : Int32) (a5 : Int32) : Int32 := (mo_leaveNow_l7 st a1 a2 a3 a4 a5 144 0)
set_option maxHeartbeats 4000000 in
set_option maxRecDepth 20000 in
theorem c_mo_leaveNow (G : tt_G) (st : tt_St) (a1 : Int32) (a2 : Int32) (a3 : Int32) (a4 : Int32) (a5 : Int32) (hI : mo_ok st) (hp : vp_in a1 4) (hp2 : vp_in a2 4) (hd : vp_in a3 10) : tt_C y_mo_leaveNow prog_7_method_53_code 8 (some .int) 8 191 G [.ref (tt_ad G 49), .int a1, .int a2, .int a3, .int a4, .int a5] st (some (.int (mo_leaveNow st a1 a2 a3 a4 a5))) st := by
  refine tt_enter (α := Int32) (mk := fun r => (some (.int r), st)) (T := (mo_leaveNow st a1 a2 a3 a4 a5)) (by decide +kernel) (Nat.le_of_ble_eq_true rfl) (fun κ hC hR => ?_)
  rw [mo_leaveNow]
  refine r_sipush (v := 144) hC d_mo_leaveNow_0 (by decide) ?_
  refine r_iload_n 3 hC d_mo_leaveNow_3 rfl ?_
  refine r_imul hC d_mo_leaveNow_4 ?_
  refine r_istore [(6, .int (144 * a3)), (0, .ref (tt_ad G 49)), (1, .int a1), (2, .int a2), (3, .int a3), (4, .int a4), (5, .int a5)] hC d_mo_leaveNow_5 (by decide) rfl ?_
  exact tt_cast [1, 2, 3, 4, 5, 6, 0] (by simp only [nI_0, Int32.add_zero]; rfl) rfl (l_mo_leaveNow_7 hC st a1 a2 a3 a4 a5 hR hI hp hp2 hd 144 0  (by omega))
/-! TideTableModel.leave(IIIII)I -/
def mo_leave (st : tt_St) (a1 : Int32) (a2 : Int32) (a3 : Int32) (a4 : Int32) (a5 : Int32) : Int32 := (if (mo_isPort st a1) = 0 then (-10101) else (if (mo_isPort st a2) = 0 then (-10101) else (if (mo_isDay a3) = 0 then (-10102) else (if (mo_isPace a4) = 0 then (-10102) else (if (mo_isNeed a5) = 0 then (-10102) else (mo_leaveNow st a1 a2 a3 a4 a5))))))
set_option maxHeartbeats 4000000 in
set_option maxRecDepth 20000 in
theorem c_mo_leave (G : tt_G) (st : tt_St) (a1 : Int32) (a2 : Int32) (a3 : Int32) (a4 : Int32) (a5 : Int32) (hI : mo_ok st) : tt_C y_mo_leave prog_7_method_54_code 6 (some .int) 9 218 G [.ref (tt_ad G 49), .int a1, .int a2, .int a3, .int a4, .int a5] st (some (.int (mo_leave st a1 a2 a3 a4 a5))) st := by
  refine tt_enter (α := Int32) (mk := fun r => (some (.int r), st)) (T := (mo_leave st a1 a2 a3 a4 a5)) (by decide +kernel) (Nat.le_of_ble_eq_true rfl) (fun κ hC hR => ?_)
  rw [mo_leave]
  refine r_aload_n 0 hC d_mo_leave_0 rfl ?_
  refine r_iload_n 1 hC d_mo_leave_1 rfl ?_
  refine r_callV (o := 49) (rest := []) (stk1 := [.int (mo_isPort st a1)]) hC d_mo_leave_2 (c_mo_isPort G st a1) mw_mo_isPort mi_mo_isPort mz_mo_isPort ml_mo_147 rfl rfl rfl rfl rfl (Nat.le_of_ble_eq_true rfl) rfl ?_
  refine r_if_eq (tgt := 16) hC d_mo_leave_5 (by decide) (fun c_5 => ?_) (fun c_5 => ?_)
  ·
    refine r_sipush (v := (-10101)) hC d_mo_leave_16 (by decide) ?_
    exact r_iret hC hR d_mo_leave_19 rfl rfl
  ·
    refine r_aload_n 0 hC d_mo_leave_8 rfl ?_
    refine r_iload_n 2 hC d_mo_leave_9 rfl ?_
    refine r_callV (o := 49) (rest := []) (stk1 := [.int (mo_isPort st a2)]) hC d_mo_leave_10 (c_mo_isPort G st a2) mw_mo_isPort mi_mo_isPort mz_mo_isPort ml_mo_147 rfl rfl rfl rfl rfl (Nat.le_of_ble_eq_true rfl) rfl ?_
    refine r_if_ne (tgt := 20) hC d_mo_leave_13 (by decide) (fun c_13 => ?_) (fun c_13 => ?_)
    ·
      refine r_iload_n 3 hC d_mo_leave_20 rfl ?_
      refine r_callS (rest := []) (stk1 := [.int (mo_isDay a3)]) hC d_mo_leave_21 (c_mo_isDay G st a3) mw_mo_isDay ms_mo_isDay ml_mo_194 rfl rfl rfl (Nat.le_of_ble_eq_true rfl) rfl ?_
      refine r_if_eq (tgt := 57) hC d_mo_leave_24 (by decide) (fun c_24 => ?_) (fun c_24 => ?_)
      ·
        refine r_sipush (v := (-10102)) hC d_mo_leave_57 (by decide) ?_
        exact r_iret hC hR d_mo_leave_60 rfl rfl
      ·
        refine r_iload 4 hC d_mo_leave_27 rfl ?_
        refine r_callS (rest := []) (stk1 := [.int (mo_isPace a4)]) hC d_mo_leave_29 (c_mo_isPace G st a4) mw_mo_isPace ms_mo_isPace ml_mo_217 rfl rfl rfl (Nat.le_of_ble_eq_true rfl) rfl ?_
        refine r_if_eq (tgt := 57) hC d_mo_leave_32 (by decide) (fun c_32 => ?_) (fun c_32 => ?_)
        ·
          refine r_sipush (v := (-10102)) hC d_mo_leave_57 (by decide) ?_
          exact r_iret hC hR d_mo_leave_60 rfl rfl
        ·
          refine r_iload 5 hC d_mo_leave_35 rfl ?_
          refine r_callS (rest := []) (stk1 := [.int (mo_isNeed a5)]) hC d_mo_leave_37 (c_mo_isNeed G st a5) mw_mo_isNeed ms_mo_isNeed ml_mo_201 rfl rfl rfl (Nat.le_of_ble_eq_true rfl) rfl ?_
          refine r_if_eq (tgt := 57) hC d_mo_leave_40 (by decide) (fun c_40 => ?_) (fun c_40 => ?_)
          ·
            refine r_sipush (v := (-10102)) hC d_mo_leave_57 (by decide) ?_
            exact r_iret hC hR d_mo_leave_60 rfl rfl
          ·
            refine r_aload_n 0 hC d_mo_leave_43 rfl ?_
            refine r_iload_n 1 hC d_mo_leave_44 rfl ?_
            refine r_iload_n 2 hC d_mo_leave_45 rfl ?_
            refine r_iload_n 3 hC d_mo_leave_46 rfl ?_
            refine r_iload 4 hC d_mo_leave_47 rfl ?_
            refine r_iload 5 hC d_mo_leave_49 rfl ?_
            refine r_callV (o := 49) (rest := []) (stk1 := [.int (mo_leaveNow st a1 a2 a3 a4 a5)]) hC d_mo_leave_51 (c_mo_leaveNow G st a1 a2 a3 a4 a5 hI (mo_isPort_in hI c_5) (mo_isPort_in hI c_13) (mo_isDay_in c_24)) mw_mo_leaveNow mi_mo_leaveNow mz_mo_leaveNow ml_mo_223 rfl rfl rfl rfl rfl (Nat.le_of_ble_eq_true rfl) rfl ?_
            refine r_goto (tgt := 60) hC d_mo_leave_54 (by decide) ?_
            exact r_iret hC hR d_mo_leave_60 rfl rfl
    ·
      refine r_sipush (v := (-10101)) hC d_mo_leave_16 (by decide) ?_
      exact r_iret hC hR d_mo_leave_19 rfl rfl
/-! TideTableModel.ofPorts(I)I -/
def mo_ofPorts_l4 (st : tt_St) (a1 : Int32) : Nat → Nat → Int32 → Int32
  | 0, j, x2 => x2
  | n + 1, j, x2 => (mo_ofPorts_l4 st a1 n (j + 1) (x2 + (if a1 = 1 then (tt_A st 54 (Int32.toNatClampNeg (nI j))) else (if (tt_A st 50 (Int32.toNatClampNeg (nI j))) = 3 then 1 else 0 : Int32) : Int32)))
set_option maxHeartbeats 4000000 in
set_option maxRecDepth 20000 in
theorem l_mo_ofPorts_4 {α : Type} {G : tt_G} {κ : tt_X α} {T : α} (hC : tt_Cx G κ prog_7_method_72_code "TideTableModel" 4 0 0) (st : tt_St) (a1 : Int32) (hI : mo_ok st) (hN : (Int32.toNatClampNeg (tt_I st 49 1)) ≤ 4) : ∀ (n j : Nat) (x2 : Int32), j + n = (Int32.toNatClampNeg (tt_I st 49 1)) → tt_V G κ T st 50 [(2, .int (mo_ofPorts_l4 st a1 n j x2))] [] → tt_V G κ T st 4 [(0, .ref (tt_ad G 49)), (1, .int a1), (2, .int x2), (3, .int (nI j))] [] := by
  intro n
  induction n with
  | zero =>
    intro j x2 hj k
    refine r_iload_n 3 hC d_mo_ofPorts_4 rfl ?_
    refine r_aload_n 0 hC d_mo_ofPorts_5 rfl ?_
    refine r_getI hC d_mo_ofPorts_6 fl_mo_138 rfl rfl ?_
    refine t_icmp_ge (tgt := 50) hC d_mo_ofPorts_9 (by decide) (tt_end hI.1.1 (by omega) (by omega)) ?_
    exact tt_cast [2] rfl rfl k
  | succ n ih =>
    intro j x2 hj k
    refine r_iload_n 3 hC d_mo_ofPorts_4 rfl ?_
    refine r_aload_n 0 hC d_mo_ofPorts_5 rfl ?_
    refine r_getI hC d_mo_ofPorts_6 fl_mo_138 rfl rfl ?_
    refine f_icmp_ge (tgt := 50) hC d_mo_ofPorts_9 (by decide) (tt_stay (by omega)) ?_
    refine r_iload_n 2 hC d_mo_ofPorts_12 rfl ?_
    refine r_iload_n 1 hC d_mo_ofPorts_13 rfl ?_
    refine r_iconst (v := 1) hC d_mo_ofPorts_14 (by decide) ?_
    refine tt_join 42 [(0, .ref (tt_ad G 49)), (1, .int a1), (3, .int (nI j))] [.int (if a1 = 1 then (tt_A st 54 (Int32.toNatClampNeg (nI j))) else (if (tt_A st 50 (Int32.toNatClampNeg (nI j))) = 3 then 1 else 0 : Int32) : Int32), .int x2] ?_ (fun kj_15 => ?_)
    ·
      refine r_iadd hC d_mo_ofPorts_42 ?_
      refine r_istore_n [(2, .int (x2 + (if a1 = 1 then (tt_A st 54 (Int32.toNatClampNeg (nI j))) else (if (tt_A st 50 (Int32.toNatClampNeg (nI j))) = 3 then 1 else 0 : Int32) : Int32))), (0, .ref (tt_ad G 49)), (1, .int a1), (3, .int (nI j))] hC d_mo_ofPorts_43 rfl (by decide) rfl ?_
      refine r_iinc 3 (nI (j + 1)) [(3, .int (nI (j + 1))), (2, .int (x2 + (if a1 = 1 then (tt_A st 54 (Int32.toNatClampNeg (nI j))) else (if (tt_A st 50 (Int32.toNatClampNeg (nI j))) = 3 then 1 else 0 : Int32) : Int32))), (0, .ref (tt_ad G 49)), (1, .int a1)] hC d_mo_ofPorts_44 rfl (by rw [nI_succ]; rfl) (by decide) rfl ?_
      refine r_goto (tgt := 4) hC d_mo_ofPorts_47 (by decide) ?_
      exact tt_cast [2, 3, 1, 0] rfl rfl (ih (j + 1) (x2 + (if a1 = 1 then (tt_A st 54 (Int32.toNatClampNeg (nI j))) else (if (tt_A st 50 (Int32.toNatClampNeg (nI j))) = 3 then 1 else 0 : Int32) : Int32)) (by omega) (by simpa only [mo_ofPorts_l4] using k))
    ·
      refine j_icmp_ne (tgt := 27) hC d_mo_ofPorts_15 (by decide) (fun c_15 => ?_) (fun c_15 => ?_)
      ·
        refine r_aload_n 0 hC d_mo_ofPorts_27 rfl ?_
        refine r_getR (r := 50) hC d_mo_ofPorts_28 fl_mo_7 rfl rfl rfl ?_
        refine r_iload_n 3 hC d_mo_ofPorts_31 rfl ?_
        refine r_iald (n := 4) hC d_mo_ofPorts_32 rfl (by decide) rfl rfl (vp_in_nI (by omega) (by omega)) ?_
        refine r_iconst (v := 3) hC d_mo_ofPorts_33 (by decide) ?_
        refine tt_join 42 [(0, .ref (tt_ad G 49)), (1, .int a1), (3, .int (nI j))] [.int (if (tt_A st 50 (Int32.toNatClampNeg (nI j))) = 3 then 1 else 0 : Int32), .int x2] ?_ (fun kj_34 => ?_)
        ·
          exact tt_cast [0, 1, 2] rfl (by simp only [if_neg c_15]) kj_15
        ·
          refine j_icmp_ne (tgt := 41) hC d_mo_ofPorts_34 (by decide) (fun c_34 => ?_) (fun c_34 => ?_)
          ·
            refine r_iconst (v := 0) hC d_mo_ofPorts_41 (by decide) ?_
            exact tt_cast [0, 1, 3] rfl (by simp only [if_neg c_34]) kj_34
          ·
            refine r_iconst (v := 1) hC d_mo_ofPorts_37 (by decide) ?_
            refine r_goto (tgt := 42) hC d_mo_ofPorts_38 (by decide) ?_
            exact tt_cast [0, 1, 3] rfl (by simp only [if_pos c_34]) kj_34
      ·
        refine r_aload_n 0 hC d_mo_ofPorts_18 rfl ?_
        refine r_getR (r := 54) hC d_mo_ofPorts_19 fl_mo_22 rfl rfl rfl ?_
        refine r_iload_n 3 hC d_mo_ofPorts_22 rfl ?_
        refine r_iald (n := 4) hC d_mo_ofPorts_23 rfl (by decide) rfl rfl (vp_in_nI (by omega) (by omega)) ?_
        refine r_goto (tgt := 42) hC d_mo_ofPorts_24 (by decide) ?_
        exact tt_cast [0, 1, 3] rfl (by simp only [if_pos c_15]) kj_15
def mo_ofPorts (st : tt_St) (a1 : Int32) : Int32 := (mo_ofPorts_l4 st a1 (Int32.toNatClampNeg (tt_I st 49 1)) 0 0)
set_option maxHeartbeats 4000000 in
set_option maxRecDepth 20000 in
theorem c_mo_ofPorts (G : tt_G) (st : tt_St) (a1 : Int32) (hI : mo_ok st) : tt_C y_mo_ofPorts prog_7_method_72_code 4 (some .int) 0 0 G [.ref (tt_ad G 49), .int a1] st (some (.int (mo_ofPorts st a1))) st := by
  refine tt_enter (α := Int32) (mk := fun r => (some (.int r), st)) (T := (mo_ofPorts st a1)) (by decide +kernel) (Nat.le_of_ble_eq_true rfl) (fun κ hC hR => ?_)
  rw [mo_ofPorts]
  refine r_iconst (v := 0) hC d_mo_ofPorts_0 (by decide) ?_
  refine r_istore_n [(2, .int 0), (0, .ref (tt_ad G 49)), (1, .int a1)] hC d_mo_ofPorts_1 rfl (by decide) rfl ?_
  refine r_iconst (v := 0) hC d_mo_ofPorts_2 (by decide) ?_
  refine r_istore_n [(3, .int 0), (2, .int 0), (0, .ref (tt_ad G 49)), (1, .int a1)] hC d_mo_ofPorts_3 rfl (by decide) rfl ?_
  refine tt_cast [2, 3, 1, 0] rfl rfl (l_mo_ofPorts_4 hC st a1 hI (tt_cle hI.1.2) (Int32.toNatClampNeg (tt_I st 49 1)) 0 0 (by omega)  ?_)
  refine r_iload_n 0 hC d_mo_ofPorts_50 rfl ?_
  exact r_iret hC hR d_mo_ofPorts_51 rfl rfl
/-! TideTableModel.greatest()I -/
def mo_greatest_l27 (st : tt_St) (x2 : Int32) : Nat → Nat → Int32 → Int32
  | 0, j, x1 => x1
  | n + 1, j, x1 => (mo_greatest_l27 st x2 n (j + 1) (if (mo_heightAt st x2 (nI j)) ≤ x1 then x1 else (mo_heightAt st x2 (nI j)) : Int32))
set_option maxHeartbeats 4000000 in
set_option maxRecDepth 20000 in
theorem l_mo_greatest_27 {α : Type} {G : tt_G} {κ : tt_X α} {T : α} (hC : tt_Cx G κ prog_7_method_71_code "TideTableModel" 5 6 141) (st : tt_St) (x2 : Int32) (hI : mo_ok st) (h2 : vp_in x2 4) : ∀ (n j : Nat) (x1 : Int32), j + n = 144 → tt_V G κ T st 61 [(0, .ref (tt_ad G 49)), (1, .int (mo_greatest_l27 st x2 n j x1)), (2, .int x2)] [] → tt_V G κ T st 27 [(0, .ref (tt_ad G 49)), (1, .int x1), (2, .int x2), (3, .int (nI j))] [] := by
  intro n
  induction n with
  | zero =>
    intro j x1 hj k
    refine r_iload_n 3 hC d_mo_greatest_27 rfl ?_
    refine r_sipush (v := 144) hC d_mo_greatest_28 (by decide) ?_
    refine t_icmp_ge (tgt := 61) hC d_mo_greatest_31 (by decide) (nI_le (a := 144) (by omega) (by omega)) ?_
    exact tt_cast [0, 1, 2] rfl rfl k
  | succ n ih =>
    intro j x1 hj k
    refine r_iload_n 3 hC d_mo_greatest_27 rfl ?_
    refine r_sipush (v := 144) hC d_mo_greatest_28 (by decide) ?_
    refine f_icmp_ge (tgt := 61) hC d_mo_greatest_31 (by decide) (nI_ge (a := j) (b := 144) (by omega) (by omega)) ?_
    refine r_aload_n 0 hC d_mo_greatest_34 rfl ?_
    refine r_iload_n 2 hC d_mo_greatest_35 rfl ?_
    refine r_iload_n 3 hC d_mo_greatest_36 rfl ?_
    refine r_callV (o := 49) (rest := []) (stk1 := [.int (mo_heightAt st x2 (nI j))]) hC d_mo_greatest_37 (c_mo_heightAt G st x2 (nI j) hI h2) mw_mo_heightAt mi_mo_heightAt mz_mo_heightAt ml_mo_185 rfl rfl rfl rfl rfl (Nat.le_of_ble_eq_true rfl) rfl ?_
    refine r_istore [(4, .int (mo_heightAt st x2 (nI j))), (0, .ref (tt_ad G 49)), (1, .int x1), (2, .int x2), (3, .int (nI j))] hC d_mo_greatest_40 (by decide) rfl ?_
    refine r_iload 0 hC d_mo_greatest_42 rfl ?_
    refine r_iload_n 2 hC d_mo_greatest_44 rfl ?_
    refine tt_join 54 [(0, .ref (tt_ad G 49)), (2, .int x2), (3, .int (nI j))] [.int (if (mo_heightAt st x2 (nI j)) ≤ x1 then x1 else (mo_heightAt st x2 (nI j)) : Int32)] ?_ (fun kj_45 => ?_)
    ·
      refine r_istore_n [(1, .int (if (mo_heightAt st x2 (nI j)) ≤ x1 then x1 else (mo_heightAt st x2 (nI j)) : Int32)), (0, .ref (tt_ad G 49)), (2, .int x2), (3, .int (nI j))] hC d_mo_greatest_54 rfl (by decide) rfl ?_
      refine r_iinc 3 (nI (j + 1)) [(3, .int (nI (j + 1))), (1, .int (if (mo_heightAt st x2 (nI j)) ≤ x1 then x1 else (mo_heightAt st x2 (nI j)) : Int32)), (0, .ref (tt_ad G 49)), (2, .int x2)] hC d_mo_greatest_55 rfl (by rw [nI_succ]; rfl) (by decide) rfl ?_
      refine r_goto (tgt := 27) hC d_mo_greatest_58 (by decide) ?_
      exact tt_cast [2, 1, 3, 0] rfl rfl (ih (j + 1) (if (mo_heightAt st x2 (nI j)) ≤ x1 then x1 else (mo_heightAt st x2 (nI j)) : Int32) (by omega) (by simpa only [mo_greatest_l27] using k))
    ·
      refine j_icmp_le (tgt := 53) hC d_mo_greatest_45 (by decide) (fun c_45 => ?_) (fun c_45 => ?_)
      ·
        refine r_iload_n 2 hC d_mo_greatest_53 rfl ?_
        exact tt_cast [1, 3, 4] rfl (by simp only [if_pos c_45]) kj_45
      ·
        refine r_iload 0 hC d_mo_greatest_48 rfl ?_
        refine r_goto (tgt := 54) hC d_mo_greatest_50 (by decide) ?_
        exact tt_cast [1, 3, 4] rfl (by simp only [if_neg c_45]) kj_45
def mo_greatest_l17 (st : tt_St) : Nat → Nat → Int32 → Int32
  | 0, j, x1 => x1
  | n + 1, j, x1 => (mo_greatest_l17 st n (j + 1) (mo_greatest_l27 st (nI j) 144 0 x1))
set_option maxHeartbeats 4000000 in
set_option maxRecDepth 20000 in
theorem l_mo_greatest_17 {α : Type} {G : tt_G} {κ : tt_X α} {T : α} (hC : tt_Cx G κ prog_7_method_71_code "TideTableModel" 5 6 141) (st : tt_St) (hI : mo_ok st) (hN : (Int32.toNatClampNeg (tt_I st 49 1)) ≤ 4) : ∀ (n j : Nat) (x1 : Int32), j + n = (Int32.toNatClampNeg (tt_I st 49 1)) → tt_V G κ T st 67 [(1, .int (mo_greatest_l17 st n j x1))] [] → tt_V G κ T st 17 [(0, .ref (tt_ad G 49)), (1, .int x1), (2, .int (nI j))] [] := by
  intro n
  induction n with
  | zero =>
    intro j x1 hj k
    refine r_iload_n 2 hC d_mo_greatest_17 rfl ?_
    refine r_aload_n 0 hC d_mo_greatest_18 rfl ?_
    refine r_getI hC d_mo_greatest_19 fl_mo_138 rfl rfl ?_
    refine t_icmp_ge (tgt := 67) hC d_mo_greatest_22 (by decide) (tt_end hI.1.1 (by omega) (by omega)) ?_
    exact tt_cast [1] rfl rfl k
  | succ n ih =>
    intro j x1 hj k
    refine r_iload_n 2 hC d_mo_greatest_17 rfl ?_
    refine r_aload_n 0 hC d_mo_greatest_18 rfl ?_
    refine r_getI hC d_mo_greatest_19 fl_mo_138 rfl rfl ?_
    refine f_icmp_ge (tgt := 67) hC d_mo_greatest_22 (by decide) (tt_stay (by omega)) ?_
    refine r_iconst (v := 0) hC d_mo_greatest_25 (by decide) ?_
    refine r_istore_n [(3, .int 0), (0, .ref (tt_ad G 49)), (1, .int x1), (2, .int (nI j))] hC d_mo_greatest_26 rfl (by decide) rfl ?_
    refine tt_cast [1, 2, 3, 0] rfl rfl (l_mo_greatest_27 hC st (nI j) hI (vp_in_nI (by omega) (by omega)) 144 0 x1 (by omega)  ?_)
    refine r_iinc 2 (nI (j + 1)) [(2, .int (nI (j + 1))), (0, .ref (tt_ad G 49)), (1, .int (mo_greatest_l27 st (nI j) 144 0 x1))] hC d_mo_greatest_61 rfl (by rw [nI_succ]; rfl) (by decide) rfl ?_
    refine r_goto (tgt := 17) hC d_mo_greatest_64 (by decide) ?_
    exact tt_cast [1, 2, 0] rfl rfl (ih (j + 1) (mo_greatest_l27 st (nI j) 144 0 x1) (by omega) (by simpa only [mo_greatest_l17] using k))
def mo_greatest (st : tt_St) : Int32 := (mo_greatest_l17 st (Int32.toNatClampNeg (tt_I st 49 1)) 0 (if (tt_I st 49 1) = 0 then 0 else (-268435456) : Int32))
set_option maxHeartbeats 4000000 in
set_option maxRecDepth 20000 in
theorem c_mo_greatest (G : tt_G) (st : tt_St)  (hI : mo_ok st) : tt_C y_mo_greatest prog_7_method_71_code 5 (some .int) 6 141 G [.ref (tt_ad G 49)] st (some (.int (mo_greatest st))) st := by
  refine tt_enter (α := Int32) (mk := fun r => (some (.int r), st)) (T := (mo_greatest st)) (by decide +kernel) (Nat.le_of_ble_eq_true rfl) (fun κ hC hR => ?_)
  rw [mo_greatest]
  refine r_aload_n 0 hC d_mo_greatest_0 rfl ?_
  refine r_getI hC d_mo_greatest_1 fl_mo_138 rfl rfl ?_
  refine tt_join 14 [(0, .ref (tt_ad G 49))] [.int (if (tt_I st 49 1) = 0 then 0 else (-268435456) : Int32)] ?_ (fun kj_4 => ?_)
  ·
    refine r_istore_n [(1, .int (if (tt_I st 49 1) = 0 then 0 else (-268435456) : Int32)), (0, .ref (tt_ad G 49))] hC d_mo_greatest_14 rfl (by decide) rfl ?_
    refine r_iconst (v := 0) hC d_mo_greatest_15 (by decide) ?_
    refine r_istore_n [(2, .int 0), (1, .int (if (tt_I st 49 1) = 0 then 0 else (-268435456) : Int32)), (0, .ref (tt_ad G 49))] hC d_mo_greatest_16 rfl (by decide) rfl ?_
    refine tt_cast [2, 1, 0] rfl rfl (l_mo_greatest_17 hC st hI (tt_cle hI.1.2) (Int32.toNatClampNeg (tt_I st 49 1)) 0 (if (tt_I st 49 1) = 0 then 0 else (-268435456) : Int32) (by omega)  ?_)
    refine r_iload_n 0 hC d_mo_greatest_67 rfl ?_
    exact r_iret hC hR d_mo_greatest_68 rfl rfl
  ·
    refine j_if_ne (tgt := 11) hC d_mo_greatest_4 (by decide) (fun c_4 => ?_) (fun c_4 => ?_)
    ·
      refine r_ldcw hC d_mo_greatest_11 k_mo_266 ?_
      exact tt_cast [0] rfl (by simp only [if_neg c_4]) kj_4
    ·
      refine r_iconst (v := 0) hC d_mo_greatest_7 (by decide) ?_
      refine r_goto (tgt := 14) hC d_mo_greatest_8 (by decide) ?_
      exact tt_cast [0] rfl (by simp only [if_pos c_4]) kj_4
/-! TideTableModel.howMany(I)I -/
def mo_howMany (st : tt_St) (a1 : Int32) : Int32 := (if a1 = 0 then (tt_I st 49 1) else (if a1 = 1 then (mo_ofPorts st a1) else (if a1 = 2 then (mo_ofPorts st a1) else (if a1 = 3 then (mo_greatest st) else (if a1 = 4 then (tt_I st 49 9) else (if a1 = 5 then (tt_I st 49 13) else (if a1 = 6 then (tt_I st 49 0) else (-10102))))))))
set_option maxHeartbeats 4000000 in
set_option maxRecDepth 20000 in
theorem c_mo_howMany (G : tt_G) (st : tt_St) (a1 : Int32) (hI : mo_ok st) : tt_C y_mo_howMany prog_7_method_73_code 2 (some .int) 7 165 G [.ref (tt_ad G 49), .int a1] st (some (.int (mo_howMany st a1))) st := by
  refine tt_enter (α := Int32) (mk := fun r => (some (.int r), st)) (T := (mo_howMany st a1)) (by decide +kernel) (Nat.le_of_ble_eq_true rfl) (fun κ hC hR => ?_)
  rw [mo_howMany]
  refine r_iload_n 1 hC d_mo_howMany_0 rfl ?_
  refine tt_ite (c := a1 = 0) (fun c_1_0 => ?_) (fun c_1_0 => ?_)
  ·
    refine r_tabIn (tgt := 44) (off := 43) hC d_mo_howMany_1 (by rw [c_1_0]; decide) (by rw [c_1_0]; decide) (by rw [c_1_0]; decide) (by decide) ?_
    refine r_aload_n 0 hC d_mo_howMany_44 rfl ?_
    refine r_getI hC d_mo_howMany_45 fl_mo_138 rfl rfl ?_
    exact r_iret hC hR d_mo_howMany_48 rfl rfl
  ·
    refine tt_ite (c := a1 = 1) (fun c_1_1 => ?_) (fun c_1_1 => ?_)
    ·
      refine r_tabIn (tgt := 49) (off := 48) hC d_mo_howMany_1 (by rw [c_1_1]; decide) (by rw [c_1_1]; decide) (by rw [c_1_1]; decide) (by decide) ?_
      refine r_aload_n 0 hC d_mo_howMany_49 rfl ?_
      refine r_iload_n 1 hC d_mo_howMany_50 rfl ?_
      refine r_callV (o := 49) (rest := []) (stk1 := [.int (mo_ofPorts st a1)]) hC d_mo_howMany_51 (c_mo_ofPorts G st a1 hI) mw_mo_ofPorts mi_mo_ofPorts mz_mo_ofPorts ml_mo_267 rfl rfl rfl rfl rfl (Nat.le_of_ble_eq_true rfl) rfl ?_
      exact r_iret hC hR d_mo_howMany_54 rfl rfl
    ·
      refine tt_ite (c := a1 = 2) (fun c_1_2 => ?_) (fun c_1_2 => ?_)
      ·
        refine r_tabIn (tgt := 49) (off := 48) hC d_mo_howMany_1 (by rw [c_1_2]; decide) (by rw [c_1_2]; decide) (by rw [c_1_2]; decide) (by decide) ?_
        refine r_aload_n 0 hC d_mo_howMany_49 rfl ?_
        refine r_iload_n 1 hC d_mo_howMany_50 rfl ?_
        refine r_callV (o := 49) (rest := []) (stk1 := [.int (mo_ofPorts st a1)]) hC d_mo_howMany_51 (c_mo_ofPorts G st a1 hI) mw_mo_ofPorts mi_mo_ofPorts mz_mo_ofPorts ml_mo_267 rfl rfl rfl rfl rfl (Nat.le_of_ble_eq_true rfl) rfl ?_
        exact r_iret hC hR d_mo_howMany_54 rfl rfl
      ·
        refine tt_ite (c := a1 = 3) (fun c_1_3 => ?_) (fun c_1_3 => ?_)
        ·
          refine r_tabIn (tgt := 55) (off := 54) hC d_mo_howMany_1 (by rw [c_1_3]; decide) (by rw [c_1_3]; decide) (by rw [c_1_3]; decide) (by decide) ?_
          refine r_aload_n 0 hC d_mo_howMany_55 rfl ?_
          refine r_callV (o := 49) (rest := []) (stk1 := [.int (mo_greatest st)]) hC d_mo_howMany_56 (c_mo_greatest G st hI) mw_mo_greatest mi_mo_greatest mz_mo_greatest ml_mo_270 rfl rfl rfl rfl rfl (Nat.le_of_ble_eq_true rfl) rfl ?_
          exact r_iret hC hR d_mo_howMany_59 rfl rfl
        ·
          refine tt_ite (c := a1 = 4) (fun c_1_4 => ?_) (fun c_1_4 => ?_)
          ·
            refine r_tabIn (tgt := 60) (off := 59) hC d_mo_howMany_1 (by rw [c_1_4]; decide) (by rw [c_1_4]; decide) (by rw [c_1_4]; decide) (by decide) ?_
            refine r_aload_n 0 hC d_mo_howMany_60 rfl ?_
            refine r_getI hC d_mo_howMany_61 fl_mo_144 rfl rfl ?_
            exact r_iret hC hR d_mo_howMany_64 rfl rfl
          ·
            refine tt_ite (c := a1 = 5) (fun c_1_5 => ?_) (fun c_1_5 => ?_)
            ·
              refine r_tabIn (tgt := 65) (off := 64) hC d_mo_howMany_1 (by rw [c_1_5]; decide) (by rw [c_1_5]; decide) (by rw [c_1_5]; decide) (by decide) ?_
              refine r_aload_n 0 hC d_mo_howMany_65 rfl ?_
              refine r_getI hC d_mo_howMany_66 fl_mo_97 rfl rfl ?_
              exact r_iret hC hR d_mo_howMany_69 rfl rfl
            ·
              refine tt_ite (c := a1 = 6) (fun c_1_6 => ?_) (fun c_1_6 => ?_)
              ·
                refine r_tabIn (tgt := 70) (off := 69) hC d_mo_howMany_1 (by rw [c_1_6]; decide) (by rw [c_1_6]; decide) (by rw [c_1_6]; decide) (by decide) ?_
                refine r_aload_n 0 hC d_mo_howMany_70 rfl ?_
                refine r_getI hC d_mo_howMany_71 fl_mo_141 rfl rfl ?_
                exact r_iret hC hR d_mo_howMany_74 rfl rfl
              ·
                have nc_1_0 := lv_neT (a := 0) c_1_0 (by decide)
                have nc_1_1 := lv_neT (a := 1) c_1_1 (by decide)
                have nc_1_2 := lv_neT (a := 2) c_1_2 (by decide)
                have nc_1_3 := lv_neT (a := 3) c_1_3 (by decide)
                have nc_1_4 := lv_neT (a := 4) c_1_4 (by decide)
                have nc_1_5 := lv_neT (a := 5) c_1_5 (by decide)
                have nc_1_6 := lv_neT (a := 6) c_1_6 (by decide)
                refine r_tabOut (tgt := 75) hC d_mo_howMany_1 (by omega) (by decide) ?_
                refine r_sipush (v := (-10102)) hC d_mo_howMany_75 (by decide) ?_
                exact r_iret hC hR d_mo_howMany_78 rfl rfl
/-! TideTableModel.count(I)I -/
def mo_count (st : tt_St) (a1 : Int32) : Int32 := (mo_howMany st a1)
set_option maxHeartbeats 4000000 in
set_option maxRecDepth 20000 in
theorem c_mo_count (G : tt_G) (st : tt_St) (a1 : Int32) (hI : mo_ok st) : tt_C y_mo_count prog_7_method_74_code 2 (some .int) 8 186 G [.ref (tt_ad G 49), .int a1] st (some (.int (mo_count st a1))) st := by
  refine tt_enter (α := Int32) (mk := fun r => (some (.int r), st)) (T := (mo_count st a1)) (by decide +kernel) (Nat.le_of_ble_eq_true rfl) (fun κ hC hR => ?_)
  rw [mo_count]
  refine r_aload_n 0 hC d_mo_count_0 rfl ?_
  refine r_iload_n 1 hC d_mo_count_1 rfl ?_
  refine r_callV (o := 49) (rest := []) (stk1 := [.int (mo_howMany st a1)]) hC d_mo_count_2 (c_mo_howMany G st a1 hI) mw_mo_howMany mi_mo_howMany mz_mo_howMany ml_mo_273 rfl rfl rfl rfl rfl (Nat.le_of_ble_eq_true rfl) rfl ?_
  exact r_iret hC hR d_mo_count_5 rfl rfl

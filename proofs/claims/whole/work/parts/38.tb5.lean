/-! TideTable.tide(IIII)I -/
def tb_tide_k55 (a1 : Int32) (a2 : Int32) (a3 : Int32) (a4 : Int32) (x5 : Int32) (st : tt_St) : Int32 × tt_St := (if (tb_placeOfTide st a3) = (-10001) then ((-10101), st) else (if a4 = 0 then ((x5 + (tb_placeOfTide st a3)), st) else (if a4 = 1 then (if (tb_turnAt st (tb_placeOfTide st a3)) ≤ 0 then (0, st) else (1, st)) else (if a4 = 2 then ((tt_A st 7 (Int32.toNatClampNeg (tb_placeOfTide st a3))), st) else ((-10102), st)))))
set_option maxHeartbeats 4000000 in
set_option maxRecDepth 20000 in
theorem l_tb_tide_55 {G : tt_G} {κ : tt_X (Int32 × tt_St)} (hC : tt_Cx G κ prog_1_method_12_code "TideTable" 7 6 143) (a1 : Int32) (a2 : Int32) (a3 : Int32) (a4 : Int32) (hR : tt_Rt G κ (some .int) (fun r => (some (.int r.1), r.2)))  (x5 : Int32) (st : tt_St)  : tt_V G κ (tb_tide_k55 a1 a2 a3 a4 x5 st) st 55 [(0, .ref (tt_ad G 0)), (3, .int a3), (4, .int a4), (5, .int x5)] [] := by
  rw [tb_tide_k55]
  refine r_aload_n 0 hC d_tb_tide_55 rfl ?_
  refine r_iload_n 1 hC d_tb_tide_56 rfl ?_
  refine r_callV (o := 0) (rest := []) (stk1 := [.int (tb_placeOfTide st a3)]) hC d_tb_tide_57 (c_tb_placeOfTide G st a3) mw_tb_placeOfTide mi_tb_placeOfTide mz_tb_placeOfTide ml_tb_129 rfl rfl rfl rfl rfl (Nat.le_of_ble_eq_true rfl) rfl ?_
  refine r_istore [(6, .int (tb_placeOfTide st a3)), (0, .ref (tt_ad G 0)), (3, .int a3), (4, .int a4), (5, .int x5)] hC d_tb_tide_60 (by decide) rfl ?_
  refine r_iload 0 hC d_tb_tide_62 rfl ?_
  refine r_sipush (v := (-10001)) hC d_tb_tide_64 (by decide) ?_
  refine r_icmp_ne (tgt := 74) hC d_tb_tide_67 (by decide) (fun c_67 => ?_) (fun c_67 => ?_)
  ·
    refine r_iload 3 hC d_tb_tide_74 rfl ?_
    refine tt_ite (c := a4 = 0) (fun c_76_0 => ?_) (fun c_76_0 => ?_)
    ·
      refine r_tabIn (tgt := 104) (off := 28) hC d_tb_tide_76 (by rw [c_76_0]; decide) (by rw [c_76_0]; decide) (by rw [c_76_0]; decide) (by decide) ?_
      refine r_iload 4 hC d_tb_tide_104 rfl ?_
      refine r_iload 0 hC d_tb_tide_106 rfl ?_
      refine r_iadd hC d_tb_tide_108 ?_
      exact r_iret_si hC hR d_tb_tide_109 rfl
    ·
      refine tt_ite (c := a4 = 1) (fun c_76_1 => ?_) (fun c_76_1 => ?_)
      ·
        refine r_tabIn (tgt := 110) (off := 34) hC d_tb_tide_76 (by rw [c_76_1]; decide) (by rw [c_76_1]; decide) (by rw [c_76_1]; decide) (by decide) ?_
        refine r_aload_n 1 hC d_tb_tide_110 rfl ?_
        refine r_iload 0 hC d_tb_tide_111 rfl ?_
        refine r_callV (o := 0) (rest := []) (stk1 := [.int (tb_turnAt st (tb_placeOfTide st a3))]) hC d_tb_tide_113 (c_tb_turnAt G st (tb_placeOfTide st a3)) mw_tb_turnAt mi_tb_turnAt mz_tb_turnAt ml_tb_132 rfl rfl rfl rfl rfl (Nat.le_of_ble_eq_true rfl) rfl ?_
        refine r_if_le (tgt := 123) hC d_tb_tide_116 (by decide) (fun c_116 => ?_) (fun c_116 => ?_)
        ·
          refine r_iconst (v := 0) hC d_tb_tide_123 (by decide) ?_
          exact r_iret_si hC hR d_tb_tide_124 rfl
        ·
          refine r_iconst (v := 1) hC d_tb_tide_119 (by decide) ?_
          refine r_goto (tgt := 124) hC d_tb_tide_120 (by decide) ?_
          exact r_iret_si hC hR d_tb_tide_124 rfl
      ·
        refine tt_ite (c := a4 = 2) (fun c_76_2 => ?_) (fun c_76_2 => ?_)
        ·
          refine r_tabIn (tgt := 125) (off := 49) hC d_tb_tide_76 (by rw [c_76_2]; decide) (by rw [c_76_2]; decide) (by rw [c_76_2]; decide) (by decide) ?_
          refine r_aload_n 1 hC d_tb_tide_125 rfl ?_
          refine r_getR (r := 7) hC d_tb_tide_126 fl_tb_26 rfl rfl rfl ?_
          refine r_iload 0 hC d_tb_tide_129 rfl ?_
          refine r_iald (n := 344) hC d_tb_tide_131 rfl (by decide) rfl rfl (tb_place_in c_67) ?_
          exact r_iret_si hC hR d_tb_tide_132 rfl
        ·
          have nc_76_0 := lv_neT (a := 0) c_76_0 (by decide)
          have nc_76_1 := lv_neT (a := 1) c_76_1 (by decide)
          have nc_76_2 := lv_neT (a := 2) c_76_2 (by decide)
          refine r_tabOut (tgt := 133) hC d_tb_tide_76 (by omega) (by decide) ?_
          refine r_sipush (v := (-10102)) hC d_tb_tide_133 (by decide) ?_
          exact r_iret_si hC hR d_tb_tide_136 rfl
  ·
    refine r_sipush (v := (-10101)) hC d_tb_tide_70 (by decide) ?_
    exact r_iret_si hC hR d_tb_tide_73 rfl
def tb_tide (st : tt_St) (a1 : Int32) (a2 : Int32) (a3 : Int32) (a4 : Int32) : Int32 × tt_St := (if (se_knows st 3 a1) = 0 then ((-10101), st) else (if (tb_within a2 0 9) = 0 then ((-10102), st) else (tb_tide_k55 a1 a2 a3 a4 ((a2 * 144) - 1) (se_fill st 3 7 a1 ((a2 * 144) - 1) 289))))
set_option maxHeartbeats 4000000 in
set_option maxRecDepth 20000 in
theorem c_tb_tide (G : tt_G) (st : tt_St) (a1 : Int32) (a2 : Int32) (a3 : Int32) (a4 : Int32) (hI : tb_ok st) : tt_C y_tb_tide prog_1_method_12_code 7 (some .int) 6 143 G [.ref (tt_ad G 0), .int a1, .int a2, .int a3, .int a4] st (some (.int (tb_tide st a1 a2 a3 a4).1)) (tb_tide st a1 a2 a3 a4).2 := by
  refine tt_enter_si (T := (tb_tide st a1 a2 a3 a4)) (by decide +kernel) (Nat.le_of_ble_eq_true rfl) (fun κ hC hR => ?_)
  rw [tb_tide]
  refine r_aload_n 0 hC d_tb_tide_0 rfl ?_
  refine r_getR (r := 3) hC d_tb_tide_1 fl_tb_19 rfl rfl rfl ?_
  refine r_iload_n 1 hC d_tb_tide_4 rfl ?_
  refine r_callV (o := 3) (rest := []) (stk1 := [.int (se_knows st 3 a1)]) hC d_tb_tide_5 (c_se_knows G st 3 a1 rfl) mw_se_knows mi_se_knows mz_se_knows ml_tb_64 rfl rfl rfl rfl rfl (Nat.le_of_ble_eq_true rfl) rfl ?_
  refine r_if_ne (tgt := 15) hC d_tb_tide_8 (by decide) (fun c_8 => ?_) (fun c_8 => ?_)
  ·
    refine r_iload_n 2 hC d_tb_tide_15 rfl ?_
    refine r_iconst (v := 0) hC d_tb_tide_16 (by decide) ?_
    refine r_bipush (v := 9) hC d_tb_tide_17 (by decide) ?_
    refine r_callS (rest := []) (stk1 := [.int (tb_within a2 0 9)]) hC d_tb_tide_19 (c_tb_within G st a2 0 9) mw_tb_within ms_tb_within ml_tb_33 rfl rfl rfl (Nat.le_of_ble_eq_true rfl) rfl ?_
    refine r_if_ne (tgt := 29) hC d_tb_tide_22 (by decide) (fun c_22 => ?_) (fun c_22 => ?_)
    ·
      refine r_iload_n 2 hC d_tb_tide_29 rfl ?_
      refine r_sipush (v := 144) hC d_tb_tide_30 (by decide) ?_
      refine r_imul hC d_tb_tide_33 ?_
      refine r_iconst (v := 1) hC d_tb_tide_34 (by decide) ?_
      refine r_isub hC d_tb_tide_35 ?_
      refine r_istore [(5, .int ((a2 * 144) - 1)), (0, .ref (tt_ad G 0)), (1, .int a1), (2, .int a2), (3, .int a3), (4, .int a4)] hC d_tb_tide_36 (by decide) rfl ?_
      refine r_aload_n 1 hC d_tb_tide_38 rfl ?_
      refine r_getR (r := 3) hC d_tb_tide_39 fl_tb_19 rfl rfl rfl ?_
      refine r_aload_n 1 hC d_tb_tide_42 rfl ?_
      refine r_getR (r := 7) hC d_tb_tide_43 fl_tb_26 rfl rfl rfl ?_
      refine r_iload_n 2 hC d_tb_tide_46 rfl ?_
      refine r_iload 0 hC d_tb_tide_47 rfl ?_
      refine r_sipush (v := 289) hC d_tb_tide_49 (by decide) ?_
      refine r_callV (o := 3) (rest := []) (stk1 := []) hC d_tb_tide_52 (c_se_fill G st 3 7 a1 ((a2 * 144) - 1) 289 rfl hI rfl (by decide) rfl rfl (by decide)) mw_se_fill mi_se_fill mz_se_fill ml_tb_125 rfl rfl rfl rfl rfl (Nat.le_of_ble_eq_true rfl) rfl ?_
      exact tt_cast [1, 4, 5, 0] rfl rfl (l_tb_tide_55 hC a1 a2 a3 a4 hR  ((a2 * 144) - 1) (se_fill st 3 7 a1 ((a2 * 144) - 1) 289) )
    ·
      refine r_sipush (v := (-10102)) hC d_tb_tide_25 (by decide) ?_
      exact r_iret_si hC hR d_tb_tide_28 rfl
  ·
    refine r_sipush (v := (-10101)) hC d_tb_tide_11 (by decide) ?_
    exact r_iret_si hC hR d_tb_tide_14 rfl
/-! TideTable.gate(IIIII)I -/
def tb_gate_k62 (a1 : Int32) (a2 : Int32) (a3 : Int32) (a4 : Int32) (a5 : Int32)  (st : tt_St) : Int32 × tt_St := (if (tb_firstOfGate st a3 a4) = (-10001) then ((-10101), st) else (if a5 = 0 then (((a2 * 144) + (tb_firstOfGate st a3 a4)), st) else (if a5 = 1 then (((a2 * 144) + (tb_lastOfGate st a3 (tb_firstOfGate st a3 a4))), st) else ((-10102), st))))
set_option maxHeartbeats 4000000 in
set_option maxRecDepth 20000 in
theorem l_tb_gate_62 {G : tt_G} {κ : tt_X (Int32 × tt_St)} (hC : tt_Cx G κ prog_1_method_13_code "TideTable" 7 6 143) (a1 : Int32) (a2 : Int32) (a3 : Int32) (a4 : Int32) (a5 : Int32) (hR : tt_Rt G κ (some .int) (fun r => (some (.int r.1), r.2)))   (st : tt_St)  : tt_V G κ (tb_gate_k62 a1 a2 a3 a4 a5 st) st 62 [(0, .ref (tt_ad G 0)), (2, .int a2), (3, .int a3), (4, .int a4), (5, .int a5)] [] := by
  rw [tb_gate_k62]
  refine r_aload_n 0 hC d_tb_gate_62 rfl ?_
  refine r_iload_n 2 hC d_tb_gate_63 rfl ?_
  refine r_iload 3 hC d_tb_gate_64 rfl ?_
  refine r_callV (o := 0) (rest := []) (stk1 := [.int (tb_firstOfGate st a3 a4)]) hC d_tb_gate_66 (c_tb_firstOfGate G st a3 a4) mw_tb_firstOfGate mi_tb_firstOfGate mz_tb_firstOfGate ml_tb_135 rfl rfl rfl rfl rfl (Nat.le_of_ble_eq_true rfl) rfl ?_
  refine r_istore [(6, .int (tb_firstOfGate st a3 a4)), (0, .ref (tt_ad G 0)), (2, .int a2), (3, .int a3), (4, .int a4), (5, .int a5)] hC d_tb_gate_69 (by decide) rfl ?_
  refine r_iload 0 hC d_tb_gate_71 rfl ?_
  refine r_sipush (v := (-10001)) hC d_tb_gate_73 (by decide) ?_
  refine r_icmp_ne (tgt := 83) hC d_tb_gate_76 (by decide) (fun c_76 => ?_) (fun c_76 => ?_)
  ·
    refine r_iload 5 hC d_tb_gate_83 rfl ?_
    refine tt_ite (c := a5 = 0) (fun c_85_0 => ?_) (fun c_85_0 => ?_)
    ·
      refine r_look (tgt := 112) (off := 27) hC d_tb_gate_85 (by decide) (by rw [c_85_0]; decide) (by decide) ?_
      refine r_iload_n 2 hC d_tb_gate_112 rfl ?_
      refine r_sipush (v := 144) hC d_tb_gate_113 (by decide) ?_
      refine r_imul hC d_tb_gate_116 ?_
      refine r_iload 0 hC d_tb_gate_117 rfl ?_
      refine r_iadd hC d_tb_gate_119 ?_
      exact r_iret_si hC hR d_tb_gate_120 rfl
    ·
      refine tt_ite (c := a5 = 1) (fun c_85_1 => ?_) (fun c_85_1 => ?_)
      ·
        refine r_look (tgt := 121) (off := 36) hC d_tb_gate_85 (by decide) (by rw [c_85_1]; decide) (by decide) ?_
        refine r_iload_n 2 hC d_tb_gate_121 rfl ?_
        refine r_sipush (v := 144) hC d_tb_gate_122 (by decide) ?_
        refine r_imul hC d_tb_gate_125 ?_
        refine r_aload_n 1 hC d_tb_gate_126 rfl ?_
        refine r_iload_n 3 hC d_tb_gate_127 rfl ?_
        refine r_iload 0 hC d_tb_gate_128 rfl ?_
        refine r_callV (o := 0) (rest := [.int (a2 * 144)]) (stk1 := [.int (tb_lastOfGate st a3 (tb_firstOfGate st a3 a4)), .int (a2 * 144)]) hC d_tb_gate_130 (c_tb_lastOfGate G st a3 (tb_firstOfGate st a3 a4) (tb_first_in c_76)) mw_tb_lastOfGate mi_tb_lastOfGate mz_tb_lastOfGate ml_tb_138 rfl rfl rfl rfl rfl (Nat.le_of_ble_eq_true rfl) rfl ?_
        refine r_iadd hC d_tb_gate_133 ?_
        exact r_iret_si hC hR d_tb_gate_134 rfl
      ·
        refine r_look (tgt := 135) (off := 50) hC d_tb_gate_85 (by decide) ((lv_osw c_85_0 (by decide)).trans ((lv_osw c_85_1 (by decide)).trans rfl)) (by decide) ?_
        refine r_sipush (v := (-10102)) hC d_tb_gate_135 (by decide) ?_
        exact r_iret_si hC hR d_tb_gate_138 rfl
  ·
    refine r_sipush (v := (-10101)) hC d_tb_gate_79 (by decide) ?_
    exact r_iret_si hC hR d_tb_gate_82 rfl
def tb_gate (st : tt_St) (a1 : Int32) (a2 : Int32) (a3 : Int32) (a4 : Int32) (a5 : Int32) : Int32 × tt_St := (if (se_knows st 3 a1) = 0 then ((-10101), st) else (if (tb_within a2 0 9) = 0 then ((-10102), st) else (if (tb_within a3 (-2000) 4000) = 0 then ((-10102), st) else (tb_gate_k62 a1 a2 a3 a4 a5 (se_fill st 3 7 a1 (a2 * 144) 144)))))
set_option maxHeartbeats 4000000 in
set_option maxRecDepth 20000 in
theorem c_tb_gate (G : tt_G) (st : tt_St) (a1 : Int32) (a2 : Int32) (a3 : Int32) (a4 : Int32) (a5 : Int32) (hI : tb_ok st) : tt_C y_tb_gate prog_1_method_13_code 7 (some .int) 6 143 G [.ref (tt_ad G 0), .int a1, .int a2, .int a3, .int a4, .int a5] st (some (.int (tb_gate st a1 a2 a3 a4 a5).1)) (tb_gate st a1 a2 a3 a4 a5).2 := by
  refine tt_enter_si (T := (tb_gate st a1 a2 a3 a4 a5)) (by decide +kernel) (Nat.le_of_ble_eq_true rfl) (fun κ hC hR => ?_)
  rw [tb_gate]
  refine r_aload_n 0 hC d_tb_gate_0 rfl ?_
  refine r_getR (r := 3) hC d_tb_gate_1 fl_tb_19 rfl rfl rfl ?_
  refine r_iload_n 1 hC d_tb_gate_4 rfl ?_
  refine r_callV (o := 3) (rest := []) (stk1 := [.int (se_knows st 3 a1)]) hC d_tb_gate_5 (c_se_knows G st 3 a1 rfl) mw_se_knows mi_se_knows mz_se_knows ml_tb_64 rfl rfl rfl rfl rfl (Nat.le_of_ble_eq_true rfl) rfl ?_
  refine r_if_ne (tgt := 15) hC d_tb_gate_8 (by decide) (fun c_8 => ?_) (fun c_8 => ?_)
  ·
    refine r_iload_n 2 hC d_tb_gate_15 rfl ?_
    refine r_iconst (v := 0) hC d_tb_gate_16 (by decide) ?_
    refine r_bipush (v := 9) hC d_tb_gate_17 (by decide) ?_
    refine r_callS (rest := []) (stk1 := [.int (tb_within a2 0 9)]) hC d_tb_gate_19 (c_tb_within G st a2 0 9) mw_tb_within ms_tb_within ml_tb_33 rfl rfl rfl (Nat.le_of_ble_eq_true rfl) rfl ?_
    refine r_if_eq (tgt := 38) hC d_tb_gate_22 (by decide) (fun c_22 => ?_) (fun c_22 => ?_)
    ·
      refine r_sipush (v := (-10102)) hC d_tb_gate_38 (by decide) ?_
      exact r_iret_si hC hR d_tb_gate_41 rfl
    ·
      refine r_iload_n 3 hC d_tb_gate_25 rfl ?_
      refine r_sipush (v := (-2000)) hC d_tb_gate_26 (by decide) ?_
      refine r_sipush (v := 4000) hC d_tb_gate_29 (by decide) ?_
      refine r_callS (rest := []) (stk1 := [.int (tb_within a3 (-2000) 4000)]) hC d_tb_gate_32 (c_tb_within G st a3 (-2000) 4000) mw_tb_within ms_tb_within ml_tb_33 rfl rfl rfl (Nat.le_of_ble_eq_true rfl) rfl ?_
      refine r_if_ne (tgt := 42) hC d_tb_gate_35 (by decide) (fun c_35 => ?_) (fun c_35 => ?_)
      ·
        refine r_aload_n 0 hC d_tb_gate_42 rfl ?_
        refine r_getR (r := 3) hC d_tb_gate_43 fl_tb_19 rfl rfl rfl ?_
        refine r_aload_n 0 hC d_tb_gate_46 rfl ?_
        refine r_getR (r := 7) hC d_tb_gate_47 fl_tb_26 rfl rfl rfl ?_
        refine r_iload_n 1 hC d_tb_gate_50 rfl ?_
        refine r_iload_n 2 hC d_tb_gate_51 rfl ?_
        refine r_sipush (v := 144) hC d_tb_gate_52 (by decide) ?_
        refine r_imul hC d_tb_gate_55 ?_
        refine r_sipush (v := 144) hC d_tb_gate_56 (by decide) ?_
        refine r_callV (o := 3) (rest := []) (stk1 := []) hC d_tb_gate_59 (c_se_fill G st 3 7 a1 (a2 * 144) 144 rfl hI rfl (by decide) rfl rfl (by decide)) mw_se_fill mi_se_fill mz_se_fill ml_tb_125 rfl rfl rfl rfl rfl (Nat.le_of_ble_eq_true rfl) rfl ?_
        exact tt_cast [0, 2, 3, 4, 5] rfl rfl (l_tb_gate_62 hC a1 a2 a3 a4 a5 hR  (se_fill st 3 7 a1 (a2 * 144) 144) )
      ·
        refine r_sipush (v := (-10102)) hC d_tb_gate_38 (by decide) ?_
        exact r_iret_si hC hR d_tb_gate_41 rfl
  ·
    refine r_sipush (v := (-10101)) hC d_tb_gate_11 (by decide) ?_
    exact r_iret_si hC hR d_tb_gate_14 rfl
/-! TideTable.dry(III)I -/
def tb_dry_l68 (st : tt_St) (a1 : Int32) (a2 : Int32) (a3 : Int32) : Nat → Nat → Int32 → Int32
  | 0, j, x4 => x4
  | n + 1, j, x4 => (tb_dry_l68 st a1 a2 a3 n (j + 1) (if a3 ≤ (tt_A st 7 (Int32.toNatClampNeg (nI j))) then x4 else (x4 + 1) : Int32))
set_option maxHeartbeats 4000000 in
set_option maxRecDepth 20000 in
theorem l_tb_dry_68 {α : Type} {G : tt_G} {κ : tt_X α} {T : α} (hC : tt_Cx G κ prog_1_method_14_code "TideTable" 6 6 143) (st : tt_St) (a1 : Int32) (a2 : Int32) (a3 : Int32)  : ∀ (n j : Nat) (x4 : Int32), j + n = 144 → tt_V G κ T st 96 [(4, .int (tb_dry_l68 st a1 a2 a3 n j x4))] [] → tt_V G κ T st 68 [(0, .ref (tt_ad G 0)), (3, .int a3), (4, .int x4), (5, .int (nI j))] [] := by
  intro n
  induction n with
  | zero =>
    intro j x4 hj k
    refine r_iload 3 hC d_tb_dry_68 rfl ?_
    refine r_sipush (v := 144) hC d_tb_dry_70 (by decide) ?_
    refine t_icmp_ge (tgt := 96) hC d_tb_dry_73 (by decide) (nI_le (a := 144) (by omega) (by omega)) ?_
    exact tt_cast [2] rfl rfl k
  | succ n ih =>
    intro j x4 hj k
    refine r_iload 3 hC d_tb_dry_68 rfl ?_
    refine r_sipush (v := 144) hC d_tb_dry_70 (by decide) ?_
    refine f_icmp_ge (tgt := 96) hC d_tb_dry_73 (by decide) (nI_ge (a := j) (b := 144) (by omega) (by omega)) ?_
    refine r_aload_n 0 hC d_tb_dry_76 rfl ?_
    refine r_getR (r := 7) hC d_tb_dry_77 fl_tb_26 rfl rfl rfl ?_
    refine r_iload 3 hC d_tb_dry_80 rfl ?_
    refine r_iald (n := 344) hC d_tb_dry_82 rfl (by decide) rfl rfl (vp_in_nI (by omega) (by omega)) ?_
    refine r_iload_n 1 hC d_tb_dry_83 rfl ?_
    refine tt_join 90 [(0, .ref (tt_ad G 0)), (3, .int a3), (4, .int (if a3 ≤ (tt_A st 7 (Int32.toNatClampNeg (nI j))) then x4 else (x4 + 1) : Int32)), (5, .int (nI j))] [] ?_ (fun kj_84 => ?_)
    ·
      refine r_iinc 3 (nI (j + 1)) [(5, .int (nI (j + 1))), (0, .ref (tt_ad G 0)), (3, .int a3), (4, .int (if a3 ≤ (tt_A st 7 (Int32.toNatClampNeg (nI j))) then x4 else (x4 + 1) : Int32))] hC d_tb_dry_90 rfl (by rw [nI_succ]; rfl) (by decide) rfl ?_
      refine r_goto (tgt := 68) hC d_tb_dry_93 (by decide) ?_
      exact tt_cast [1, 2, 3, 0] rfl rfl (ih (j + 1) (if a3 ≤ (tt_A st 7 (Int32.toNatClampNeg (nI j))) then x4 else (x4 + 1) : Int32) (by omega) (by simpa only [tb_dry_l68] using k))
    ·
      refine j_icmp_ge (tgt := 90) hC d_tb_dry_84 (by decide) (fun c_84 => ?_) (fun c_84 => ?_)
      ·
        exact tt_cast [0, 1, 2, 3] (by simp only [if_pos c_84]; rfl) rfl kj_84
      ·
        refine r_iinc 2 (x4 + 1) [(4, .int (x4 + 1)), (0, .ref (tt_ad G 0)), (3, .int a3), (5, .int (nI j))] hC d_tb_dry_87 rfl rfl (by decide) rfl ?_
        exact tt_cast [1, 2, 0, 3] (by simp only [if_neg c_84]; rfl) rfl kj_84
def tb_dry_k62 (a1 : Int32) (a2 : Int32) (a3 : Int32)  (st : tt_St) : Int32 × tt_St := ((tb_dry_l68 st a1 a2 a3 144 0 0), st)
set_option maxHeartbeats 4000000 in
set_option maxRecDepth 20000 in
theorem l_tb_dry_62 {G : tt_G} {κ : tt_X (Int32 × tt_St)} (hC : tt_Cx G κ prog_1_method_14_code "TideTable" 6 6 143) (a1 : Int32) (a2 : Int32) (a3 : Int32) (hR : tt_Rt G κ (some .int) (fun r => (some (.int r.1), r.2)))   (st : tt_St)  : tt_V G κ (tb_dry_k62 a1 a2 a3 st) st 62 [(0, .ref (tt_ad G 0)), (3, .int a3)] [] := by
  rw [tb_dry_k62]
  refine r_iconst (v := 0) hC d_tb_dry_62 (by decide) ?_
  refine r_istore [(4, .int 0), (0, .ref (tt_ad G 0)), (3, .int a3)] hC d_tb_dry_63 (by decide) rfl ?_
  refine r_iconst (v := 0) hC d_tb_dry_65 (by decide) ?_
  refine r_istore [(5, .int 0), (4, .int 0), (0, .ref (tt_ad G 0)), (3, .int a3)] hC d_tb_dry_66 (by decide) rfl ?_
  refine tt_cast [2, 3, 1, 0] rfl rfl (l_tb_dry_68 hC st a1 a2 a3  144 0 0 (by omega)  ?_)
  refine r_iload 0 hC d_tb_dry_96 rfl ?_
  exact r_iret_si hC hR d_tb_dry_98 rfl
def tb_dry (st : tt_St) (a1 : Int32) (a2 : Int32) (a3 : Int32) : Int32 × tt_St := (if (se_knows st 3 a1) = 0 then ((-10101), st) else (if (tb_within a2 0 9) = 0 then ((-10102), st) else (if (tb_within a3 (-2000) 4000) = 0 then ((-10102), st) else (tb_dry_k62 a1 a2 a3 (se_fill st 3 7 a1 (a2 * 144) 144)))))
set_option maxHeartbeats 4000000 in
set_option maxRecDepth 20000 in
theorem c_tb_dry (G : tt_G) (st : tt_St) (a1 : Int32) (a2 : Int32) (a3 : Int32) (hI : tb_ok st) : tt_C y_tb_dry prog_1_method_14_code 6 (some .int) 6 143 G [.ref (tt_ad G 0), .int a1, .int a2, .int a3] st (some (.int (tb_dry st a1 a2 a3).1)) (tb_dry st a1 a2 a3).2 := by
  refine tt_enter_si (T := (tb_dry st a1 a2 a3)) (by decide +kernel) (Nat.le_of_ble_eq_true rfl) (fun κ hC hR => ?_)
  rw [tb_dry]
  refine r_aload_n 0 hC d_tb_dry_0 rfl ?_
  refine r_getR (r := 3) hC d_tb_dry_1 fl_tb_19 rfl rfl rfl ?_
  refine r_iload_n 1 hC d_tb_dry_4 rfl ?_
  refine r_callV (o := 3) (rest := []) (stk1 := [.int (se_knows st 3 a1)]) hC d_tb_dry_5 (c_se_knows G st 3 a1 rfl) mw_se_knows mi_se_knows mz_se_knows ml_tb_64 rfl rfl rfl rfl rfl (Nat.le_of_ble_eq_true rfl) rfl ?_
  refine r_if_ne (tgt := 15) hC d_tb_dry_8 (by decide) (fun c_8 => ?_) (fun c_8 => ?_)
  ·
    refine r_iload_n 2 hC d_tb_dry_15 rfl ?_
    refine r_iconst (v := 0) hC d_tb_dry_16 (by decide) ?_
    refine r_bipush (v := 9) hC d_tb_dry_17 (by decide) ?_
    refine r_callS (rest := []) (stk1 := [.int (tb_within a2 0 9)]) hC d_tb_dry_19 (c_tb_within G st a2 0 9) mw_tb_within ms_tb_within ml_tb_33 rfl rfl rfl (Nat.le_of_ble_eq_true rfl) rfl ?_
    refine r_if_eq (tgt := 38) hC d_tb_dry_22 (by decide) (fun c_22 => ?_) (fun c_22 => ?_)
    ·
      refine r_sipush (v := (-10102)) hC d_tb_dry_38 (by decide) ?_
      exact r_iret_si hC hR d_tb_dry_41 rfl
    ·
      refine r_iload_n 3 hC d_tb_dry_25 rfl ?_
      refine r_sipush (v := (-2000)) hC d_tb_dry_26 (by decide) ?_
      refine r_sipush (v := 4000) hC d_tb_dry_29 (by decide) ?_
      refine r_callS (rest := []) (stk1 := [.int (tb_within a3 (-2000) 4000)]) hC d_tb_dry_32 (c_tb_within G st a3 (-2000) 4000) mw_tb_within ms_tb_within ml_tb_33 rfl rfl rfl (Nat.le_of_ble_eq_true rfl) rfl ?_
      refine r_if_ne (tgt := 42) hC d_tb_dry_35 (by decide) (fun c_35 => ?_) (fun c_35 => ?_)
      ·
        refine r_aload_n 0 hC d_tb_dry_42 rfl ?_
        refine r_getR (r := 3) hC d_tb_dry_43 fl_tb_19 rfl rfl rfl ?_
        refine r_aload_n 0 hC d_tb_dry_46 rfl ?_
        refine r_getR (r := 7) hC d_tb_dry_47 fl_tb_26 rfl rfl rfl ?_
        refine r_iload_n 1 hC d_tb_dry_50 rfl ?_
        refine r_iload_n 2 hC d_tb_dry_51 rfl ?_
        refine r_sipush (v := 144) hC d_tb_dry_52 (by decide) ?_
        refine r_imul hC d_tb_dry_55 ?_
        refine r_sipush (v := 144) hC d_tb_dry_56 (by decide) ?_
        refine r_callV (o := 3) (rest := []) (stk1 := []) hC d_tb_dry_59 (c_se_fill G st 3 7 a1 (a2 * 144) 144 rfl hI rfl (by decide) rfl rfl (by decide)) mw_se_fill mi_se_fill mz_se_fill ml_tb_125 rfl rfl rfl rfl rfl (Nat.le_of_ble_eq_true rfl) rfl ?_
        exact tt_cast [0, 3] rfl rfl (l_tb_dry_62 hC a1 a2 a3 hR  (se_fill st 3 7 a1 (a2 * 144) 144) )
      ·
        refine r_sipush (v := (-10102)) hC d_tb_dry_38 (by decide) ?_
        exact r_iret_si hC hR d_tb_dry_41 rfl
  ·
    refine r_sipush (v := (-10101)) hC d_tb_dry_11 (by decide) ?_
    exact r_iret_si hC hR d_tb_dry_14 rfl
/-! TideTable.slack(III)I -/
def tb_slack_l83 (st : tt_St) (a1 : Int32) (a2 : Int32) (a3 : Int32) (x4 : Int32) : Nat → Nat → Int32 × tt_St
  | 0, j => ((-10001), st)
  | n + 1, j => (if ((tt_A st 7 (Int32.toNatClampNeg (nI j))) - (tt_A st 8 (Int32.toNatClampNeg (nI j)))) = 0 then ((x4 + (nI j)), st) else (if ((tt_A st 7 (Int32.toNatClampNeg (nI j))) - (tt_A st 8 (Int32.toNatClampNeg (nI j)))) ≤ 0 then (if 0 ≤ ((tt_A st 7 (Int32.toNatClampNeg (nI j))) - (tt_A st 8 (Int32.toNatClampNeg (nI j)))) then (tb_slack_l83 st a1 a2 a3 x4 n (j + 1)) else (if ((tt_A st 7 (Int32.toNatClampNeg ((nI j) - 1))) - (tt_A st 8 (Int32.toNatClampNeg ((nI j) - 1)))) ≤ 0 then (tb_slack_l83 st a1 a2 a3 x4 n (j + 1)) else ((x4 + (nI j)), st))) else (if ((tt_A st 7 (Int32.toNatClampNeg ((nI j) - 1))) - (tt_A st 8 (Int32.toNatClampNeg ((nI j) - 1)))) < 0 then ((x4 + (nI j)), st) else (if 0 ≤ ((tt_A st 7 (Int32.toNatClampNeg (nI j))) - (tt_A st 8 (Int32.toNatClampNeg (nI j)))) then (tb_slack_l83 st a1 a2 a3 x4 n (j + 1)) else (if ((tt_A st 7 (Int32.toNatClampNeg ((nI j) - 1))) - (tt_A st 8 (Int32.toNatClampNeg ((nI j) - 1)))) ≤ 0 then (tb_slack_l83 st a1 a2 a3 x4 n (j + 1)) else ((x4 + (nI j)), st))))))
set_option maxHeartbeats 4000000 in
set_option maxRecDepth 20000 in
theorem l_tb_slack_83 {G : tt_G} {κ : tt_X (Int32 × tt_St)} (hC : tt_Cx G κ prog_1_method_16_code "TideTable" 8 6 143) (st : tt_St) (a1 : Int32) (a2 : Int32) (a3 : Int32) (x4 : Int32)  (hR : tt_Rt G κ (some .int) (fun r => (some (.int r.1), r.2)))  : ∀ (n j : Nat), j + n = 145 → 1 ≤ j → tt_V G κ (tb_slack_l83 st a1 a2 a3 x4 n j) st 83 [(0, .ref (tt_ad G 0)), (4, .int x4), (5, .int (nI j))] [] := by
  intro n
  induction n with
  | zero =>
    intro j hj h1
    rw [tb_slack_l83]
    refine r_iload 2 hC d_tb_slack_83 rfl ?_
    refine r_sipush (v := 144) hC d_tb_slack_85 (by decide) ?_
    refine t_icmp_gt (tgt := 166) hC d_tb_slack_88 (by decide) (nI_lt (a := 144) (by omega) (by omega)) ?_
    refine r_sipush (v := (-10001)) hC d_tb_slack_166 (by decide) ?_
    exact r_iret_si hC hR d_tb_slack_169 rfl
  | succ n ih =>
    intro j hj h1
    rw [tb_slack_l83]
    refine r_iload 2 hC d_tb_slack_83 rfl ?_
    refine r_sipush (v := 144) hC d_tb_slack_85 (by decide) ?_
    refine f_icmp_gt (tgt := 166) hC d_tb_slack_88 (by decide) (nI_nlt (a := 144) (b := j) (by omega) (by omega)) ?_
    refine r_aload_n 0 hC d_tb_slack_91 rfl ?_
    refine r_getR (r := 7) hC d_tb_slack_92 fl_tb_26 rfl rfl rfl ?_
    refine r_iload 2 hC d_tb_slack_95 rfl ?_
    refine r_iconst (v := 1) hC d_tb_slack_97 (by decide) ?_
    refine r_isub hC d_tb_slack_98 ?_
    refine r_iald (n := 344) hC d_tb_slack_99 rfl (by decide) rfl rfl (tt_pred1 h1 (by omega)) ?_
    refine r_aload_n 0 hC d_tb_slack_100 rfl ?_
    refine r_getR (r := 8) hC d_tb_slack_101 fl_tb_30 rfl rfl rfl ?_
    refine r_iload 2 hC d_tb_slack_104 rfl ?_
    refine r_iconst (v := 1) hC d_tb_slack_106 (by decide) ?_
    refine r_isub hC d_tb_slack_107 ?_
    refine r_iald (n := 344) hC d_tb_slack_108 rfl (by decide) rfl rfl (tt_pred1 h1 (by omega)) ?_
    refine r_isub hC d_tb_slack_109 ?_
    refine r_istore [(6, .int ((tt_A st 7 (Int32.toNatClampNeg ((nI j) - 1))) - (tt_A st 8 (Int32.toNatClampNeg ((nI j) - 1))))), (0, .ref (tt_ad G 0)), (4, .int x4), (5, .int (nI j))] hC d_tb_slack_110 (by decide) rfl ?_
    refine r_aload_n 1 hC d_tb_slack_112 rfl ?_
    refine r_getR (r := 7) hC d_tb_slack_113 fl_tb_26 rfl rfl rfl ?_
    refine r_iload 3 hC d_tb_slack_116 rfl ?_
    refine r_iald (n := 344) hC d_tb_slack_118 rfl (by decide) rfl rfl (vp_in_nI (by omega) (by omega)) ?_
    refine r_aload_n 1 hC d_tb_slack_119 rfl ?_
    refine r_getR (r := 8) hC d_tb_slack_120 fl_tb_30 rfl rfl rfl ?_
    refine r_iload 3 hC d_tb_slack_123 rfl ?_
    refine r_iald (n := 344) hC d_tb_slack_125 rfl (by decide) rfl rfl (vp_in_nI (by omega) (by omega)) ?_
    refine r_isub hC d_tb_slack_126 ?_
    refine r_istore [(7, .int ((tt_A st 7 (Int32.toNatClampNeg (nI j))) - (tt_A st 8 (Int32.toNatClampNeg (nI j))))), (6, .int ((tt_A st 7 (Int32.toNatClampNeg ((nI j) - 1))) - (tt_A st 8 (Int32.toNatClampNeg ((nI j) - 1))))), (0, .ref (tt_ad G 0)), (4, .int x4), (5, .int (nI j))] hC d_tb_slack_127 (by decide) rfl ?_
    refine r_iload 0 hC d_tb_slack_129 rfl ?_
    refine r_if_eq (tgt := 154) hC d_tb_slack_131 (by decide) (fun c_131 => ?_) (fun c_131 => ?_)
    ·
      refine r_iload 3 hC d_tb_slack_154 rfl ?_
      refine r_iload 4 hC d_tb_slack_156 rfl ?_
      refine r_iadd hC d_tb_slack_158 ?_
      exact r_iret_si hC hR d_tb_slack_159 rfl
    ·
      refine r_iload 0 hC d_tb_slack_134 rfl ?_
      refine r_if_le (tgt := 144) hC d_tb_slack_136 (by decide) (fun c_136 => ?_) (fun c_136 => ?_)
      ·
        refine r_iload 0 hC d_tb_slack_144 rfl ?_
        refine r_if_ge (tgt := 160) hC d_tb_slack_146 (by decide) (fun c_146 => ?_) (fun c_146 => ?_)
        ·
          refine r_iinc 4 (nI (j + 1)) [(5, .int (nI (j + 1))), (7, .int ((tt_A st 7 (Int32.toNatClampNeg (nI j))) - (tt_A st 8 (Int32.toNatClampNeg (nI j))))), (6, .int ((tt_A st 7 (Int32.toNatClampNeg ((nI j) - 1))) - (tt_A st 8 (Int32.toNatClampNeg ((nI j) - 1))))), (0, .ref (tt_ad G 0)), (4, .int x4)] hC d_tb_slack_160 rfl (by rw [nI_succ]; rfl) (by decide) rfl ?_
          refine r_goto (tgt := 83) hC d_tb_slack_163 (by decide) ?_
          exact tt_cast [3, 4, 0] rfl rfl (ih (j + 1) (by omega) (by omega))
        ·
          refine r_iload 1 hC d_tb_slack_149 rfl ?_
          refine r_if_le (tgt := 160) hC d_tb_slack_151 (by decide) (fun c_151 => ?_) (fun c_151 => ?_)
          ·
            refine r_iinc 4 (nI (j + 1)) [(5, .int (nI (j + 1))), (7, .int ((tt_A st 7 (Int32.toNatClampNeg (nI j))) - (tt_A st 8 (Int32.toNatClampNeg (nI j))))), (6, .int ((tt_A st 7 (Int32.toNatClampNeg ((nI j) - 1))) - (tt_A st 8 (Int32.toNatClampNeg ((nI j) - 1))))), (0, .ref (tt_ad G 0)), (4, .int x4)] hC d_tb_slack_160 rfl (by rw [nI_succ]; rfl) (by decide) rfl ?_
            refine r_goto (tgt := 83) hC d_tb_slack_163 (by decide) ?_
            exact tt_cast [3, 4, 0] rfl rfl (ih (j + 1) (by omega) (by omega))
          ·
            refine r_iload 3 hC d_tb_slack_154 rfl ?_
            refine r_iload 4 hC d_tb_slack_156 rfl ?_
            refine r_iadd hC d_tb_slack_158 ?_
            exact r_iret_si hC hR d_tb_slack_159 rfl
      ·
        refine r_iload 1 hC d_tb_slack_139 rfl ?_
        refine r_if_lt (tgt := 154) hC d_tb_slack_141 (by decide) (fun c_141 => ?_) (fun c_141 => ?_)
        ·
          refine r_iload 3 hC d_tb_slack_154 rfl ?_
          refine r_iload 4 hC d_tb_slack_156 rfl ?_
          refine r_iadd hC d_tb_slack_158 ?_
          exact r_iret_si hC hR d_tb_slack_159 rfl
        ·
          refine r_iload 0 hC d_tb_slack_144 rfl ?_
          refine r_if_ge (tgt := 160) hC d_tb_slack_146 (by decide) (fun c_146 => ?_) (fun c_146 => ?_)
          ·
            refine r_iinc 4 (nI (j + 1)) [(5, .int (nI (j + 1))), (7, .int ((tt_A st 7 (Int32.toNatClampNeg (nI j))) - (tt_A st 8 (Int32.toNatClampNeg (nI j))))), (6, .int ((tt_A st 7 (Int32.toNatClampNeg ((nI j) - 1))) - (tt_A st 8 (Int32.toNatClampNeg ((nI j) - 1))))), (0, .ref (tt_ad G 0)), (4, .int x4)] hC d_tb_slack_160 rfl (by rw [nI_succ]; rfl) (by decide) rfl ?_
            refine r_goto (tgt := 83) hC d_tb_slack_163 (by decide) ?_
            exact tt_cast [3, 4, 0] rfl rfl (ih (j + 1) (by omega) (by omega))
          ·
            refine r_iload 1 hC d_tb_slack_149 rfl ?_
            refine r_if_le (tgt := 160) hC d_tb_slack_151 (by decide) (fun c_151 => ?_) (fun c_151 => ?_)
            ·
              refine r_iinc 4 (nI (j + 1)) [(5, .int (nI (j + 1))), (7, .int ((tt_A st 7 (Int32.toNatClampNeg (nI j))) - (tt_A st 8 (Int32.toNatClampNeg (nI j))))), (6, .int ((tt_A st 7 (Int32.toNatClampNeg ((nI j) - 1))) - (tt_A st 8 (Int32.toNatClampNeg ((nI j) - 1))))), (0, .ref (tt_ad G 0)), (4, .int x4)] hC d_tb_slack_160 rfl (by rw [nI_succ]; rfl) (by decide) rfl ?_
              refine r_goto (tgt := 83) hC d_tb_slack_163 (by decide) ?_
              exact tt_cast [3, 4, 0] rfl rfl (ih (j + 1) (by omega) (by omega))
            ·
              refine r_iload 3 hC d_tb_slack_154 rfl ?_
              refine r_iload 4 hC d_tb_slack_156 rfl ?_
              refine r_iadd hC d_tb_slack_158 ?_
              exact r_iret_si hC hR d_tb_slack_159 rfl
def tb_slack_k80 (a1 : Int32) (a2 : Int32) (a3 : Int32) (x4 : Int32) (st : tt_St) : Int32 × tt_St := (tb_slack_l83 st a1 a2 a3 x4 144 1)
set_option maxHeartbeats 4000000 in
set_option maxRecDepth 20000 in
theorem l_tb_slack_80 {G : tt_G} {κ : tt_X (Int32 × tt_St)} (hC : tt_Cx G κ prog_1_method_16_code "TideTable" 8 6 143) (a1 : Int32) (a2 : Int32) (a3 : Int32) (hR : tt_Rt G κ (some .int) (fun r => (some (.int r.1), r.2)))  (x4 : Int32) (st : tt_St)  : tt_V G κ (tb_slack_k80 a1 a2 a3 x4 st) st 80 [(0, .ref (tt_ad G 0)), (4, .int x4)] [] := by
  rw [tb_slack_k80]
  refine r_iconst (v := 1) hC d_tb_slack_80 (by decide) ?_
  refine r_istore [(5, .int 1), (0, .ref (tt_ad G 0)), (4, .int x4)] hC d_tb_slack_81 (by decide) rfl ?_
  exact tt_cast [1, 2, 0] rfl rfl (l_tb_slack_83 hC st a1 a2 a3 x4 hR  144 1  (by omega) (by decide))
def tb_slack (st : tt_St) (a1 : Int32) (a2 : Int32) (a3 : Int32) : Int32 × tt_St := (if (se_knows st 3 a1) = 0 then ((-10101), st) else (if (se_knows st 3 a2) = 0 then ((-10101), st) else (if (tb_within a3 0 1439) = 0 then ((-10102), st) else (tb_slack_k80 a1 a2 a3 (a3 - 1) (se_fill (se_fill st 3 7 a1 (a3 - 1) 145) 3 8 a2 (a3 - 1) 145)))))
set_option maxHeartbeats 4000000 in
set_option maxRecDepth 20000 in
theorem c_tb_slack (G : tt_G) (st : tt_St) (a1 : Int32) (a2 : Int32) (a3 : Int32) (hI : tb_ok st) : tt_C y_tb_slack prog_1_method_16_code 8 (some .int) 6 143 G [.ref (tt_ad G 0), .int a1, .int a2, .int a3] st (some (.int (tb_slack st a1 a2 a3).1)) (tb_slack st a1 a2 a3).2 := by
  refine tt_enter_si (T := (tb_slack st a1 a2 a3)) (by decide +kernel) (Nat.le_of_ble_eq_true rfl) (fun κ hC hR => ?_)
  rw [tb_slack]
  refine r_aload_n 0 hC d_tb_slack_0 rfl ?_
  refine r_getR (r := 3) hC d_tb_slack_1 fl_tb_19 rfl rfl rfl ?_
  refine r_iload_n 1 hC d_tb_slack_4 rfl ?_
  refine r_callV (o := 3) (rest := []) (stk1 := [.int (se_knows st 3 a1)]) hC d_tb_slack_5 (c_se_knows G st 3 a1 rfl) mw_se_knows mi_se_knows mz_se_knows ml_tb_64 rfl rfl rfl rfl rfl (Nat.le_of_ble_eq_true rfl) rfl ?_
  refine r_if_eq (tgt := 22) hC d_tb_slack_8 (by decide) (fun c_8 => ?_) (fun c_8 => ?_)
  ·
    refine r_sipush (v := (-10101)) hC d_tb_slack_22 (by decide) ?_
    exact r_iret_si hC hR d_tb_slack_25 rfl
  ·
    refine r_aload_n 0 hC d_tb_slack_11 rfl ?_
    refine r_getR (r := 3) hC d_tb_slack_12 fl_tb_19 rfl rfl rfl ?_
    refine r_iload_n 2 hC d_tb_slack_15 rfl ?_
    refine r_callV (o := 3) (rest := []) (stk1 := [.int (se_knows st 3 a2)]) hC d_tb_slack_16 (c_se_knows G st 3 a2 rfl) mw_se_knows mi_se_knows mz_se_knows ml_tb_64 rfl rfl rfl rfl rfl (Nat.le_of_ble_eq_true rfl) rfl ?_
    refine r_if_ne (tgt := 26) hC d_tb_slack_19 (by decide) (fun c_19 => ?_) (fun c_19 => ?_)
    ·
      refine r_iload_n 3 hC d_tb_slack_26 rfl ?_
      refine r_iconst (v := 0) hC d_tb_slack_27 (by decide) ?_
      refine r_sipush (v := 1439) hC d_tb_slack_28 (by decide) ?_
      refine r_callS (rest := []) (stk1 := [.int (tb_within a3 0 1439)]) hC d_tb_slack_31 (c_tb_within G st a3 0 1439) mw_tb_within ms_tb_within ml_tb_33 rfl rfl rfl (Nat.le_of_ble_eq_true rfl) rfl ?_
      refine r_if_ne (tgt := 41) hC d_tb_slack_34 (by decide) (fun c_34 => ?_) (fun c_34 => ?_)
      ·
        refine r_iload_n 3 hC d_tb_slack_41 rfl ?_
        refine r_iconst (v := 1) hC d_tb_slack_42 (by decide) ?_
        refine r_isub hC d_tb_slack_43 ?_
        refine r_istore [(4, .int (a3 - 1)), (0, .ref (tt_ad G 0)), (1, .int a1), (2, .int a2), (3, .int a3)] hC d_tb_slack_44 (by decide) rfl ?_
        refine r_aload_n 1 hC d_tb_slack_46 rfl ?_
        refine r_getR (r := 3) hC d_tb_slack_47 fl_tb_19 rfl rfl rfl ?_
        refine r_aload_n 1 hC d_tb_slack_50 rfl ?_
        refine r_getR (r := 7) hC d_tb_slack_51 fl_tb_26 rfl rfl rfl ?_
        refine r_iload_n 2 hC d_tb_slack_54 rfl ?_
        refine r_iload 0 hC d_tb_slack_55 rfl ?_
        refine r_sipush (v := 145) hC d_tb_slack_57 (by decide) ?_
        refine r_callV (o := 3) (rest := []) (stk1 := []) hC d_tb_slack_60 (c_se_fill G st 3 7 a1 (a3 - 1) 145 rfl hI rfl (by decide) rfl rfl (by decide)) mw_se_fill mi_se_fill mz_se_fill ml_tb_125 rfl rfl rfl rfl rfl (Nat.le_of_ble_eq_true rfl) rfl ?_
        refine r_aload_n 1 hC d_tb_slack_63 rfl ?_
        refine r_getR (r := 3) hC d_tb_slack_64 fl_tb_19 rfl rfl rfl ?_
        refine r_aload_n 1 hC d_tb_slack_67 rfl ?_
        refine r_getR (r := 8) hC d_tb_slack_68 fl_tb_30 rfl rfl rfl ?_
        refine r_iload_n 3 hC d_tb_slack_71 rfl ?_
        refine r_iload 0 hC d_tb_slack_72 rfl ?_
        refine r_sipush (v := 145) hC d_tb_slack_74 (by decide) ?_
        refine r_callV (o := 3) (rest := []) (stk1 := []) hC d_tb_slack_77 (c_se_fill G (se_fill st 3 7 a1 (a3 - 1) 145) 3 8 a2 (a3 - 1) 145 rfl (se_fill_ok hI) rfl (by decide) rfl rfl (by decide)) mw_se_fill mi_se_fill mz_se_fill ml_tb_125 rfl rfl rfl rfl rfl (Nat.le_of_ble_eq_true rfl) rfl ?_
        exact tt_cast [1, 0] rfl rfl (l_tb_slack_80 hC a1 a2 a3 hR  (a3 - 1) (se_fill (se_fill st 3 7 a1 (a3 - 1) 145) 3 8 a2 (a3 - 1) 145) )
      ·
        refine r_sipush (v := (-10102)) hC d_tb_slack_37 (by decide) ?_
        exact r_iret_si hC hR d_tb_slack_40 rfl
    ·
      refine r_sipush (v := (-10101)) hC d_tb_slack_22 (by decide) ?_
      exact r_iret_si hC hR d_tb_slack_25 rfl
/-! TideTable.trip(IIII)I -/
def tb_trip_k84 (a1 : Int32) (a2 : Int32) (a3 : Int32) (a4 : Int32)  (st : tt_St) : Int32 × tt_St := ((tb_tripFrom st 0 a4), st)
set_option maxHeartbeats 4000000 in
set_option maxRecDepth 20000 in
theorem l_tb_trip_84 {G : tt_G} {κ : tt_X (Int32 × tt_St)} (hC : tt_Cx G κ prog_1_method_17_code "TideTable" 5 6 143) (a1 : Int32) (a2 : Int32) (a3 : Int32) (a4 : Int32) (hR : tt_Rt G κ (some .int) (fun r => (some (.int r.1), r.2)))   (st : tt_St)  : tt_V G κ (tb_trip_k84 a1 a2 a3 a4 st) st 84 [(0, .ref (tt_ad G 0)), (4, .int a4)] [] := by
  rw [tb_trip_k84]
  refine r_aload_n 0 hC d_tb_trip_84 rfl ?_
  refine r_iconst (v := 0) hC d_tb_trip_85 (by decide) ?_
  refine r_iload 1 hC d_tb_trip_86 rfl ?_
  refine r_callV (o := 0) (rest := []) (stk1 := [.int (tb_tripFrom st 0 a4)]) hC d_tb_trip_88 (c_tb_tripFrom G st 0 a4 (by unfold vp_in; decide)) mw_tb_tripFrom mi_tb_tripFrom mz_tb_tripFrom ml_tb_141 rfl rfl rfl rfl rfl (Nat.le_of_ble_eq_true rfl) rfl ?_
  exact r_iret_si hC hR d_tb_trip_91 rfl
def tb_trip (st : tt_St) (a1 : Int32) (a2 : Int32) (a3 : Int32) (a4 : Int32) : Int32 × tt_St := (if (se_knows st 3 a1) = 0 then ((-10101), st) else (if (se_knows st 3 a2) = 0 then ((-10101), st) else (if (tb_within a3 0 1439) = 0 then ((-10102), st) else (if (tb_within a4 1 30) = 0 then ((-10102), st) else (tb_trip_k84 a1 a2 a3 a4 (se_fill (se_fill st 3 7 a1 a3 200) 3 8 a2 a3 200))))))
set_option maxHeartbeats 4000000 in
set_option maxRecDepth 20000 in
theorem c_tb_trip (G : tt_G) (st : tt_St) (a1 : Int32) (a2 : Int32) (a3 : Int32) (a4 : Int32) (hI : tb_ok st) : tt_C y_tb_trip prog_1_method_17_code 5 (some .int) 6 143 G [.ref (tt_ad G 0), .int a1, .int a2, .int a3, .int a4] st (some (.int (tb_trip st a1 a2 a3 a4).1)) (tb_trip st a1 a2 a3 a4).2 := by
  refine tt_enter_si (T := (tb_trip st a1 a2 a3 a4)) (by decide +kernel) (Nat.le_of_ble_eq_true rfl) (fun κ hC hR => ?_)
  rw [tb_trip]
  refine r_aload_n 0 hC d_tb_trip_0 rfl ?_
  refine r_getR (r := 3) hC d_tb_trip_1 fl_tb_19 rfl rfl rfl ?_
  refine r_iload_n 1 hC d_tb_trip_4 rfl ?_
  refine r_callV (o := 3) (rest := []) (stk1 := [.int (se_knows st 3 a1)]) hC d_tb_trip_5 (c_se_knows G st 3 a1 rfl) mw_se_knows mi_se_knows mz_se_knows ml_tb_64 rfl rfl rfl rfl rfl (Nat.le_of_ble_eq_true rfl) rfl ?_
  refine r_if_eq (tgt := 22) hC d_tb_trip_8 (by decide) (fun c_8 => ?_) (fun c_8 => ?_)
  ·
    refine r_sipush (v := (-10101)) hC d_tb_trip_22 (by decide) ?_
    exact r_iret_si hC hR d_tb_trip_25 rfl
  ·
    refine r_aload_n 0 hC d_tb_trip_11 rfl ?_
    refine r_getR (r := 3) hC d_tb_trip_12 fl_tb_19 rfl rfl rfl ?_
    refine r_iload_n 2 hC d_tb_trip_15 rfl ?_
    refine r_callV (o := 3) (rest := []) (stk1 := [.int (se_knows st 3 a2)]) hC d_tb_trip_16 (c_se_knows G st 3 a2 rfl) mw_se_knows mi_se_knows mz_se_knows ml_tb_64 rfl rfl rfl rfl rfl (Nat.le_of_ble_eq_true rfl) rfl ?_
    refine r_if_ne (tgt := 26) hC d_tb_trip_19 (by decide) (fun c_19 => ?_) (fun c_19 => ?_)
    ·
      refine r_iload_n 3 hC d_tb_trip_26 rfl ?_
      refine r_iconst (v := 0) hC d_tb_trip_27 (by decide) ?_
      refine r_sipush (v := 1439) hC d_tb_trip_28 (by decide) ?_
      refine r_callS (rest := []) (stk1 := [.int (tb_within a3 0 1439)]) hC d_tb_trip_31 (c_tb_within G st a3 0 1439) mw_tb_within ms_tb_within ml_tb_33 rfl rfl rfl (Nat.le_of_ble_eq_true rfl) rfl ?_
      refine r_if_eq (tgt := 48) hC d_tb_trip_34 (by decide) (fun c_34 => ?_) (fun c_34 => ?_)
      ·
        refine r_sipush (v := (-10102)) hC d_tb_trip_48 (by decide) ?_
        exact r_iret_si hC hR d_tb_trip_51 rfl
      ·
        refine r_iload 4 hC d_tb_trip_37 rfl ?_
        refine r_iconst (v := 1) hC d_tb_trip_39 (by decide) ?_
        refine r_bipush (v := 30) hC d_tb_trip_40 (by decide) ?_
        refine r_callS (rest := []) (stk1 := [.int (tb_within a4 1 30)]) hC d_tb_trip_42 (c_tb_within G st a4 1 30) mw_tb_within ms_tb_within ml_tb_33 rfl rfl rfl (Nat.le_of_ble_eq_true rfl) rfl ?_
        refine r_if_ne (tgt := 52) hC d_tb_trip_45 (by decide) (fun c_45 => ?_) (fun c_45 => ?_)
        ·
          refine r_aload_n 0 hC d_tb_trip_52 rfl ?_
          refine r_getR (r := 3) hC d_tb_trip_53 fl_tb_19 rfl rfl rfl ?_
          refine r_aload_n 0 hC d_tb_trip_56 rfl ?_
          refine r_getR (r := 7) hC d_tb_trip_57 fl_tb_26 rfl rfl rfl ?_
          refine r_iload_n 1 hC d_tb_trip_60 rfl ?_
          refine r_iload_n 3 hC d_tb_trip_61 rfl ?_
          refine r_sipush (v := 200) hC d_tb_trip_62 (by decide) ?_
          refine r_callV (o := 3) (rest := []) (stk1 := []) hC d_tb_trip_65 (c_se_fill G st 3 7 a1 a3 200 rfl hI rfl (by decide) rfl rfl (by decide)) mw_se_fill mi_se_fill mz_se_fill ml_tb_125 rfl rfl rfl rfl rfl (Nat.le_of_ble_eq_true rfl) rfl ?_
          refine r_aload_n 0 hC d_tb_trip_68 rfl ?_
          refine r_getR (r := 3) hC d_tb_trip_69 fl_tb_19 rfl rfl rfl ?_
          refine r_aload_n 0 hC d_tb_trip_72 rfl ?_
          refine r_getR (r := 8) hC d_tb_trip_73 fl_tb_30 rfl rfl rfl ?_
          refine r_iload_n 2 hC d_tb_trip_76 rfl ?_
          refine r_iload_n 3 hC d_tb_trip_77 rfl ?_
          refine r_sipush (v := 200) hC d_tb_trip_78 (by decide) ?_
          refine r_callV (o := 3) (rest := []) (stk1 := []) hC d_tb_trip_81 (c_se_fill G (se_fill st 3 7 a1 a3 200) 3 8 a2 a3 200 rfl (se_fill_ok hI) rfl (by decide) rfl rfl (by decide)) mw_se_fill mi_se_fill mz_se_fill ml_tb_125 rfl rfl rfl rfl rfl (Nat.le_of_ble_eq_true rfl) rfl ?_
          exact tt_cast [0, 4] rfl rfl (l_tb_trip_84 hC a1 a2 a3 a4 hR  (se_fill (se_fill st 3 7 a1 a3 200) 3 8 a2 a3 200) )
        ·
          refine r_sipush (v := (-10102)) hC d_tb_trip_48 (by decide) ?_
          exact r_iret_si hC hR d_tb_trip_51 rfl
    ·
      refine r_sipush (v := (-10101)) hC d_tb_trip_22 (by decide) ?_
      exact r_iret_si hC hR d_tb_trip_25 rfl
/-! TideTable.leave(IIIII)I -/
def tb_leave_l108 (st : tt_St) (a1 : Int32) (a2 : Int32) (a3 : Int32) (a4 : Int32) (a5 : Int32) : Nat → Nat → Int32 × tt_St
  | 0, j => ((-10001), st)
  | n + 1, j => (if (tb_tripFrom st (nI j) a4) = (-10001) then (tb_leave_l108 st a1 a2 a3 a4 a5 n (j + 1)) else (if (tt_A st 8 (Int32.toNatClampNeg ((nI j) + (tb_tripFrom st (nI j) a4)))) < a5 then (tb_leave_l108 st a1 a2 a3 a4 a5 n (j + 1)) else (((a3 * 144) + (nI j)), st)))
set_option maxHeartbeats 4000000 in
set_option maxRecDepth 20000 in
theorem l_tb_leave_108 {G : tt_G} {κ : tt_X (Int32 × tt_St)} (hC : tt_Cx G κ prog_1_method_18_code "TideTable" 8 6 143) (st : tt_St) (a1 : Int32) (a2 : Int32) (a3 : Int32) (a4 : Int32) (a5 : Int32)  (hR : tt_Rt G κ (some .int) (fun r => (some (.int r.1), r.2)))  : ∀ (n j : Nat), j + n = 144 → tt_V G κ (tb_leave_l108 st a1 a2 a3 a4 a5 n j) st 108 [(0, .ref (tt_ad G 0)), (3, .int a3), (4, .int a4), (5, .int a5), (6, .int (nI j))] [] := by
  intro n
  induction n with
  | zero =>
    intro j hj
    rw [tb_leave_l108]
    refine r_iload 4 hC d_tb_leave_108 rfl ?_
    refine r_sipush (v := 144) hC d_tb_leave_110 (by decide) ?_
    refine t_icmp_ge (tgt := 164) hC d_tb_leave_113 (by decide) (nI_le (a := 144) (by omega) (by omega)) ?_
    refine r_sipush (v := (-10001)) hC d_tb_leave_164 (by decide) ?_
    exact r_iret_si hC hR d_tb_leave_167 rfl
  | succ n ih =>
    intro j hj
    rw [tb_leave_l108]
    refine r_iload 4 hC d_tb_leave_108 rfl ?_
    refine r_sipush (v := 144) hC d_tb_leave_110 (by decide) ?_
    refine f_icmp_ge (tgt := 164) hC d_tb_leave_113 (by decide) (nI_ge (a := j) (b := 144) (by omega) (by omega)) ?_
    refine r_aload_n 0 hC d_tb_leave_116 rfl ?_
    refine r_iload 4 hC d_tb_leave_117 rfl ?_
    refine r_iload 2 hC d_tb_leave_119 rfl ?_
    refine r_callV (o := 0) (rest := []) (stk1 := [.int (tb_tripFrom st (nI j) a4)]) hC d_tb_leave_121 (c_tb_tripFrom G st (nI j) a4 (vp_in_nI (by omega) (by omega))) mw_tb_tripFrom mi_tb_tripFrom mz_tb_tripFrom ml_tb_141 rfl rfl rfl rfl rfl (Nat.le_of_ble_eq_true rfl) rfl ?_
    refine r_istore [(7, .int (tb_tripFrom st (nI j) a4)), (0, .ref (tt_ad G 0)), (3, .int a3), (4, .int a4), (5, .int a5), (6, .int (nI j))] hC d_tb_leave_124 (by decide) rfl ?_
    refine r_iload 0 hC d_tb_leave_126 rfl ?_
    refine r_sipush (v := (-10001)) hC d_tb_leave_128 (by decide) ?_
    refine r_icmp_eq (tgt := 158) hC d_tb_leave_131 (by decide) (fun c_131 => ?_) (fun c_131 => ?_)
    ·
      refine r_iinc 5 (nI (j + 1)) [(6, .int (nI (j + 1))), (7, .int (tb_tripFrom st (nI j) a4)), (0, .ref (tt_ad G 0)), (3, .int a3), (4, .int a4), (5, .int a5)] hC d_tb_leave_158 rfl (by rw [nI_succ]; rfl) (by decide) rfl ?_
      refine r_goto (tgt := 108) hC d_tb_leave_161 (by decide) ?_
      exact tt_cast [2, 3, 4, 5, 0] rfl rfl (ih (j + 1) (by omega))
    ·
      refine r_aload_n 1 hC d_tb_leave_134 rfl ?_
      refine r_getR (r := 8) hC d_tb_leave_135 fl_tb_30 rfl rfl rfl ?_
      refine r_iload 5 hC d_tb_leave_138 rfl ?_
      refine r_iload 0 hC d_tb_leave_140 rfl ?_
      refine r_iadd hC d_tb_leave_142 ?_
      refine r_iald (n := 344) hC d_tb_leave_143 rfl (by decide) rfl rfl (tb_leave_in (by omega) c_131) ?_
      refine r_iload 4 hC d_tb_leave_144 rfl ?_
      refine r_icmp_lt (tgt := 158) hC d_tb_leave_146 (by decide) (fun c_146 => ?_) (fun c_146 => ?_)
      ·
        refine r_iinc 5 (nI (j + 1)) [(6, .int (nI (j + 1))), (7, .int (tb_tripFrom st (nI j) a4)), (0, .ref (tt_ad G 0)), (3, .int a3), (4, .int a4), (5, .int a5)] hC d_tb_leave_158 rfl (by rw [nI_succ]; rfl) (by decide) rfl ?_
        refine r_goto (tgt := 108) hC d_tb_leave_161 (by decide) ?_
        exact tt_cast [2, 3, 4, 5, 0] rfl rfl (ih (j + 1) (by omega))
      ·
        refine r_iload_n 2 hC d_tb_leave_149 rfl ?_
        refine r_sipush (v := 144) hC d_tb_leave_150 (by decide) ?_
        refine r_imul hC d_tb_leave_153 ?_
        refine r_iload 5 hC d_tb_leave_154 rfl ?_
        refine r_iadd hC d_tb_leave_156 ?_
        exact r_iret_si hC hR d_tb_leave_157 rfl
def tb_leave_k105 (a1 : Int32) (a2 : Int32) (a3 : Int32) (a4 : Int32) (a5 : Int32)  (st : tt_St) : Int32 × tt_St := (tb_leave_l108 st a1 a2 a3 a4 a5 144 0)
set_option maxHeartbeats 4000000 in
set_option maxRecDepth 20000 in
theorem l_tb_leave_105 {G : tt_G} {κ : tt_X (Int32 × tt_St)} (hC : tt_Cx G κ prog_1_method_18_code "TideTable" 8 6 143) (a1 : Int32) (a2 : Int32) (a3 : Int32) (a4 : Int32) (a5 : Int32) (hR : tt_Rt G κ (some .int) (fun r => (some (.int r.1), r.2)))   (st : tt_St)  : tt_V G κ (tb_leave_k105 a1 a2 a3 a4 a5 st) st 105 [(0, .ref (tt_ad G 0)), (3, .int a3), (4, .int a4), (5, .int a5)] [] := by
  rw [tb_leave_k105]
  refine r_iconst (v := 0) hC d_tb_leave_105 (by decide) ?_
  refine r_istore [(6, .int 0), (0, .ref (tt_ad G 0)), (3, .int a3), (4, .int a4), (5, .int a5)] hC d_tb_leave_106 (by decide) rfl ?_
  exact tt_cast [1, 2, 3, 4, 0] rfl rfl (l_tb_leave_108 hC st a1 a2 a3 a4 a5 hR  144 0  (by omega))
def tb_leave (st : tt_St) (a1 : Int32) (a2 : Int32) (a3 : Int32) (a4 : Int32) (a5 : Int32) : Int32 × tt_St := (if (se_knows st 3 a1) = 0 then ((-10101), st) else (if (se_knows st 3 a2) = 0 then ((-10101), st) else (if (tb_within a3 0 9) = 0 then ((-10102), st) else (if (tb_within a4 1 30) = 0 then ((-10102), st) else (if (tb_within a5 (-2000) 4000) = 0 then ((-10102), st) else (tb_leave_k105 a1 a2 a3 a4 a5 (se_fill (se_fill st 3 7 a1 (a3 * 144) 344) 3 8 a2 (a3 * 144) 344)))))))
set_option maxHeartbeats 4000000 in
set_option maxRecDepth 20000 in
theorem c_tb_leave (G : tt_G) (st : tt_St) (a1 : Int32) (a2 : Int32) (a3 : Int32) (a4 : Int32) (a5 : Int32) (hI : tb_ok st) : tt_C y_tb_leave prog_1_method_18_code 8 (some .int) 6 143 G [.ref (tt_ad G 0), .int a1, .int a2, .int a3, .int a4, .int a5] st (some (.int (tb_leave st a1 a2 a3 a4 a5).1)) (tb_leave st a1 a2 a3 a4 a5).2 := by
  refine tt_enter_si (T := (tb_leave st a1 a2 a3 a4 a5)) (by decide +kernel) (Nat.le_of_ble_eq_true rfl) (fun κ hC hR => ?_)
  rw [tb_leave]
  refine r_aload_n 0 hC d_tb_leave_0 rfl ?_
  refine r_getR (r := 3) hC d_tb_leave_1 fl_tb_19 rfl rfl rfl ?_
  refine r_iload_n 1 hC d_tb_leave_4 rfl ?_
  refine r_callV (o := 3) (rest := []) (stk1 := [.int (se_knows st 3 a1)]) hC d_tb_leave_5 (c_se_knows G st 3 a1 rfl) mw_se_knows mi_se_knows mz_se_knows ml_tb_64 rfl rfl rfl rfl rfl (Nat.le_of_ble_eq_true rfl) rfl ?_
  refine r_if_eq (tgt := 22) hC d_tb_leave_8 (by decide) (fun c_8 => ?_) (fun c_8 => ?_)
  ·
    refine r_sipush (v := (-10101)) hC d_tb_leave_22 (by decide) ?_
    exact r_iret_si hC hR d_tb_leave_25 rfl
  ·
    refine r_aload_n 0 hC d_tb_leave_11 rfl ?_
    refine r_getR (r := 3) hC d_tb_leave_12 fl_tb_19 rfl rfl rfl ?_
    refine r_iload_n 2 hC d_tb_leave_15 rfl ?_
    refine r_callV (o := 3) (rest := []) (stk1 := [.int (se_knows st 3 a2)]) hC d_tb_leave_16 (c_se_knows G st 3 a2 rfl) mw_se_knows mi_se_knows mz_se_knows ml_tb_64 rfl rfl rfl rfl rfl (Nat.le_of_ble_eq_true rfl) rfl ?_
    refine r_if_ne (tgt := 26) hC d_tb_leave_19 (by decide) (fun c_19 => ?_) (fun c_19 => ?_)
    ·
      refine r_iload_n 3 hC d_tb_leave_26 rfl ?_
      refine r_iconst (v := 0) hC d_tb_leave_27 (by decide) ?_
      refine r_bipush (v := 9) hC d_tb_leave_28 (by decide) ?_
      refine r_callS (rest := []) (stk1 := [.int (tb_within a3 0 9)]) hC d_tb_leave_30 (c_tb_within G st a3 0 9) mw_tb_within ms_tb_within ml_tb_33 rfl rfl rfl (Nat.le_of_ble_eq_true rfl) rfl ?_
      refine r_if_eq (tgt := 61) hC d_tb_leave_33 (by decide) (fun c_33 => ?_) (fun c_33 => ?_)
      ·
        refine r_sipush (v := (-10102)) hC d_tb_leave_61 (by decide) ?_
        exact r_iret_si hC hR d_tb_leave_64 rfl
      ·
        refine r_iload 4 hC d_tb_leave_36 rfl ?_
        refine r_iconst (v := 1) hC d_tb_leave_38 (by decide) ?_
        refine r_bipush (v := 30) hC d_tb_leave_39 (by decide) ?_
        refine r_callS (rest := []) (stk1 := [.int (tb_within a4 1 30)]) hC d_tb_leave_41 (c_tb_within G st a4 1 30) mw_tb_within ms_tb_within ml_tb_33 rfl rfl rfl (Nat.le_of_ble_eq_true rfl) rfl ?_
        refine r_if_eq (tgt := 61) hC d_tb_leave_44 (by decide) (fun c_44 => ?_) (fun c_44 => ?_)
        ·
          refine r_sipush (v := (-10102)) hC d_tb_leave_61 (by decide) ?_
          exact r_iret_si hC hR d_tb_leave_64 rfl
        ·
          refine r_iload 5 hC d_tb_leave_47 rfl ?_
          refine r_sipush (v := (-2000)) hC d_tb_leave_49 (by decide) ?_
          refine r_sipush (v := 4000) hC d_tb_leave_52 (by decide) ?_
          refine r_callS (rest := []) (stk1 := [.int (tb_within a5 (-2000) 4000)]) hC d_tb_leave_55 (c_tb_within G st a5 (-2000) 4000) mw_tb_within ms_tb_within ml_tb_33 rfl rfl rfl (Nat.le_of_ble_eq_true rfl) rfl ?_
          refine r_if_ne (tgt := 65) hC d_tb_leave_58 (by decide) (fun c_58 => ?_) (fun c_58 => ?_)
          ·
            refine r_aload_n 0 hC d_tb_leave_65 rfl ?_
            refine r_getR (r := 3) hC d_tb_leave_66 fl_tb_19 rfl rfl rfl ?_
            refine r_aload_n 0 hC d_tb_leave_69 rfl ?_
            refine r_getR (r := 7) hC d_tb_leave_70 fl_tb_26 rfl rfl rfl ?_
            refine r_iload_n 1 hC d_tb_leave_73 rfl ?_
            refine r_iload_n 3 hC d_tb_leave_74 rfl ?_
            refine r_sipush (v := 144) hC d_tb_leave_75 (by decide) ?_
            refine r_imul hC d_tb_leave_78 ?_
            refine r_sipush (v := 344) hC d_tb_leave_79 (by decide) ?_
            refine r_callV (o := 3) (rest := []) (stk1 := []) hC d_tb_leave_82 (c_se_fill G st 3 7 a1 (a3 * 144) 344 rfl hI rfl (by decide) rfl rfl (by decide)) mw_se_fill mi_se_fill mz_se_fill ml_tb_125 rfl rfl rfl rfl rfl (Nat.le_of_ble_eq_true rfl) rfl ?_
            refine r_aload_n 0 hC d_tb_leave_85 rfl ?_
            refine r_getR (r := 3) hC d_tb_leave_86 fl_tb_19 rfl rfl rfl ?_
            refine r_aload_n 0 hC d_tb_leave_89 rfl ?_
            refine r_getR (r := 8) hC d_tb_leave_90 fl_tb_30 rfl rfl rfl ?_
            refine r_iload_n 2 hC d_tb_leave_93 rfl ?_
            refine r_iload_n 3 hC d_tb_leave_94 rfl ?_
            refine r_sipush (v := 144) hC d_tb_leave_95 (by decide) ?_
            refine r_imul hC d_tb_leave_98 ?_
            refine r_sipush (v := 344) hC d_tb_leave_99 (by decide) ?_
            refine r_callV (o := 3) (rest := []) (stk1 := []) hC d_tb_leave_102 (c_se_fill G (se_fill st 3 7 a1 (a3 * 144) 344) 3 8 a2 (a3 * 144) 344 rfl (se_fill_ok hI) rfl (by decide) rfl rfl (by decide)) mw_se_fill mi_se_fill mz_se_fill ml_tb_125 rfl rfl rfl rfl rfl (Nat.le_of_ble_eq_true rfl) rfl ?_
            exact tt_cast [0, 3, 4, 5] rfl rfl (l_tb_leave_105 hC a1 a2 a3 a4 a5 hR  (se_fill (se_fill st 3 7 a1 (a3 * 144) 344) 3 8 a2 (a3 * 144) 344) )
          ·
            refine r_sipush (v := (-10102)) hC d_tb_leave_61 (by decide) ?_
            exact r_iret_si hC hR d_tb_leave_64 rfl
    ·
      refine r_sipush (v := (-10101)) hC d_tb_leave_22 (by decide) ?_
      exact r_iret_si hC hR d_tb_leave_25 rfl

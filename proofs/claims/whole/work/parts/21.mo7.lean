/-! TideTableModel.readPort(I)I -/
def mo_readPort_l153 (a1 : Int32) (x2 : Int32) : Nat → Int32 → tt_St → Int32 × tt_St
  | 0, x3, st => (x3, st)
  | n + 1, x3, st => (if (tt_I st 49 16) = 0 then (if x2 = 3 then (x3, st) else (if 3 ≤ (tt_A st 65 (Int32.toNatClampNeg (tt_I st 49 17))) then (x3, st) else (if (tt_A st 65 (Int32.toNatClampNeg (tt_I st 49 17))) = 0 then (mo_readPort_l153 a1 x2 n ((mo_readWave st x3).1) ((mo_readWave st x3).2)) else (if (mo_isFigure st x3) = 0 then (x3, st) else (mo_readPort_l153 a1 x2 n ((mo_readWave st x3).1) ((mo_readWave st x3).2)))))) else (x3, st))
set_option maxHeartbeats 4000000 in
set_option maxRecDepth 20000 in
theorem l_mo_readPort_153 {α : Type} {G : tt_G} {κ : tt_X α} {T : α} (hC : tt_Cx G κ prog_7_method_15_code "TideTableModel" 4 4 90) (a1 : Int32) (x2 : Int32) (hk1 : 0 ≤ a1.toInt ∧ a1.toInt ≤ 500) : ∀ (n : Nat) (x3 : Int32) (st : tt_St), mo_pl st → vp_in (tt_I st 49 17) 4 → 0 ≤ x3.toInt ∧ x3.toInt + 6 * (n : Int) ≤ 700 → 0 ≤ (tt_A st 65 (Int32.toNatClampNeg (tt_I st 49 17))).toInt ∧ (tt_A st 65 (Int32.toNatClampNeg (tt_I st 49 17))).toInt ≤ 3 ∧ 4 ≤ (tt_A st 65 (Int32.toNatClampNeg (tt_I st 49 17))).toInt + (n : Int) → tt_V G κ T ((mo_readPort_l153 a1 x2 n x3 st).2) 207 [(0, .ref (tt_ad G 49)), (3, .int ((mo_readPort_l153 a1 x2 n x3 st).1))] [] → tt_V G κ T st 153 [(0, .ref (tt_ad G 49)), (2, .int x2), (3, .int x3)] [] := by
  intro n
  induction n with
  | zero =>
    intro x3 st hl hn hk hw k
    exact absurd hw (by omega)
  | succ n ih =>
    intro x3 st hl hn hk hw k
    refine r_aload_n 0 hC d_mo_readPort_153 rfl ?_
    refine r_getI hC d_mo_readPort_154 fl_mo_108 rfl rfl ?_
    refine j_if_ne (tgt := 207) hC d_mo_readPort_157 (by decide) (fun c_157 => ?_) (fun c_157 => ?_)
    ·
      exact tt_cast (lv' := [(0, .ref (tt_ad G 49)), (3, .int x3)]) [0, 2] rfl rfl (by simpa only [mo_readPort_l153, if_neg c_157] using k)
    ·
      refine r_iload_n 1 hC d_mo_readPort_160 rfl ?_
      refine r_iconst (v := 3) hC d_mo_readPort_161 (by decide) ?_
      refine j_icmp_eq (tgt := 207) hC d_mo_readPort_162 (by decide) (fun c_162 => ?_) (fun c_162 => ?_)
      ·
        exact tt_cast (lv' := [(0, .ref (tt_ad G 49)), (3, .int x3)]) [0, 2] rfl rfl (by simpa only [mo_readPort_l153, if_pos c_157, if_pos c_162] using k)
      ·
        refine r_aload_n 0 hC d_mo_readPort_165 rfl ?_
        refine r_getR (r := 65) hC d_mo_readPort_166 fl_mo_56 rfl rfl rfl ?_
        refine r_aload_n 0 hC d_mo_readPort_169 rfl ?_
        refine r_getI hC d_mo_readPort_170 fl_mo_115 rfl rfl ?_
        refine r_iald (n := 4) hC d_mo_readPort_173 rfl (by decide) rfl rfl hn ?_
        refine r_iconst (v := 3) hC d_mo_readPort_174 (by decide) ?_
        refine j_icmp_ge (tgt := 207) hC d_mo_readPort_175 (by decide) (fun c_175 => ?_) (fun c_175 => ?_)
        ·
          exact tt_cast (lv' := [(0, .ref (tt_ad G 49)), (3, .int x3)]) [0, 2] rfl rfl (by simpa only [mo_readPort_l153, if_pos c_157, if_neg c_162, if_pos c_175] using k)
        ·
          refine r_aload_n 0 hC d_mo_readPort_178 rfl ?_
          refine r_getR (r := 65) hC d_mo_readPort_179 fl_mo_56 rfl rfl rfl ?_
          refine r_aload_n 0 hC d_mo_readPort_182 rfl ?_
          refine r_getI hC d_mo_readPort_183 fl_mo_115 rfl rfl ?_
          refine r_iald (n := 4) hC d_mo_readPort_186 rfl (by decide) rfl rfl hn ?_
          refine j_if_eq (tgt := 198) hC d_mo_readPort_187 (by decide) (fun c_187 => ?_) (fun c_187 => ?_)
          ·
            refine r_aload_n 0 hC d_mo_readPort_198 rfl ?_
            refine r_iload_n 2 hC d_mo_readPort_199 rfl ?_
            refine r_callV (o := 49) (rest := []) (stk1 := [.int (mo_readWave st x3).1]) hC d_mo_readPort_200 (c_mo_readWave G st x3 hl (by omega) hn (mo_rp_in hw c_175)) mw_mo_readWave mi_mo_readWave mz_mo_readWave ml_mo_125 rfl rfl rfl rfl rfl (Nat.le_of_ble_eq_true rfl) rfl ?_
            refine r_istore_n [(3, .int (mo_readWave st x3).1), (0, .ref (tt_ad G 49)), (2, .int x2)] hC d_mo_readPort_203 rfl (by decide) rfl ?_
            refine r_goto (tgt := 153) hC d_mo_readPort_204 (by decide) ?_
            exact tt_cast [1, 2, 0] rfl rfl (ih ((mo_readWave st x3).1) ((mo_readWave st x3).2) (mo_rw_pl hl) (mo_rw_np hn) (mo_rw_k hk) (mo_rw_w hw c_175) (by simpa only [mo_readPort_l153, if_pos c_157, if_neg c_162, if_neg c_175, if_pos c_187] using k))
          ·
            refine r_aload_n 0 hC d_mo_readPort_190 rfl ?_
            refine r_iload_n 2 hC d_mo_readPort_191 rfl ?_
            refine r_callV (o := 49) (rest := []) (stk1 := [.int (mo_isFigure st x3)]) hC d_mo_readPort_192 (c_mo_isFigure G st x3 hl hk.1) mw_mo_isFigure mi_mo_isFigure mz_mo_isFigure ml_mo_104 rfl rfl rfl rfl rfl (Nat.le_of_ble_eq_true rfl) rfl ?_
            refine j_if_eq (tgt := 207) hC d_mo_readPort_195 (by decide) (fun c_195 => ?_) (fun c_195 => ?_)
            ·
              exact tt_cast (lv' := [(0, .ref (tt_ad G 49)), (3, .int x3)]) [0, 2] rfl rfl (by simpa only [mo_readPort_l153, if_pos c_157, if_neg c_162, if_neg c_175, if_neg c_187, if_pos c_195] using k)
            ·
              refine r_aload_n 0 hC d_mo_readPort_198 rfl ?_
              refine r_iload_n 2 hC d_mo_readPort_199 rfl ?_
              refine r_callV (o := 49) (rest := []) (stk1 := [.int (mo_readWave st x3).1]) hC d_mo_readPort_200 (c_mo_readWave G st x3 hl (by omega) hn (mo_rp_in hw c_175)) mw_mo_readWave mi_mo_readWave mz_mo_readWave ml_mo_125 rfl rfl rfl rfl rfl (Nat.le_of_ble_eq_true rfl) rfl ?_
              refine r_istore_n [(3, .int (mo_readWave st x3).1), (0, .ref (tt_ad G 49)), (2, .int x2)] hC d_mo_readPort_203 rfl (by decide) rfl ?_
              refine r_goto (tgt := 153) hC d_mo_readPort_204 (by decide) ?_
              exact tt_cast [1, 2, 0] rfl rfl (ih ((mo_readWave st x3).1) ((mo_readWave st x3).2) (mo_rw_pl hl) (mo_rw_np hn) (mo_rw_k hk) (mo_rw_w hw c_175) (by simpa only [mo_readPort_l153, if_pos c_157, if_neg c_162, if_neg c_175, if_neg c_187, if_neg c_195] using k))
def mo_readPort_k139 (a1 : Int32) (x2 : Int32) (y0 : Int32) (st : tt_St) : Int32 × tt_St := (((mo_readPort_l153 a1 x2 4 y0 (tt_pA st 64 (Int32.toNatClampNeg (tt_I st 49 17)) (tt_I st 49 24))).1), tt_pI ((mo_readPort_l153 a1 x2 4 y0 (tt_pA st 64 (Int32.toNatClampNeg (tt_I st 49 17)) (tt_I st 49 24))).2) 49 17 ((tt_I ((mo_readPort_l153 a1 x2 4 y0 (tt_pA st 64 (Int32.toNatClampNeg (tt_I st 49 17)) (tt_I st 49 24))).2) 49 17) + 1))
set_option maxHeartbeats 4000000 in
set_option maxRecDepth 20000 in
theorem l_mo_readPort_139 {G : tt_G} {κ : tt_X (Int32 × tt_St)} (hC : tt_Cx G κ prog_7_method_15_code "TideTableModel" 4 4 90) (a1 : Int32) (hR : tt_Rt G κ (some .int) (fun r => (some (.int r.1), r.2))) (hk1 : 0 ≤ a1.toInt ∧ a1.toInt ≤ 500) (x2 : Int32) (y0 : Int32) (st : tt_St) (hl : mo_pl st) (hn : vp_in (tt_I st 49 17) 4) (hw : tt_A st 65 (Int32.toNatClampNeg (tt_I st 49 17)) = 0) (hk : 0 ≤ y0.toInt ∧ y0.toInt ≤ 507) : tt_V G κ (mo_readPort_k139 a1 x2 y0 st) st 139 [(0, .ref (tt_ad G 49)), (2, .int x2)] [.int y0] := by
  rw [mo_readPort_k139]
  refine r_istore_n [(3, .int y0), (0, .ref (tt_ad G 49)), (2, .int x2)] hC d_mo_readPort_139 rfl (by decide) rfl ?_
  refine r_aload_n 1 hC d_mo_readPort_140 rfl ?_
  refine r_getR (r := 64) hC d_mo_readPort_141 fl_mo_53 rfl rfl rfl ?_
  refine r_aload_n 1 hC d_mo_readPort_144 rfl ?_
  refine r_getI hC d_mo_readPort_145 fl_mo_115 rfl rfl ?_
  refine r_aload_n 1 hC d_mo_readPort_148 rfl ?_
  refine r_getI hC d_mo_readPort_149 fl_mo_112 rfl rfl ?_
  refine r_iast (n := 4) hC d_mo_readPort_152 rfl (by decide) rfl rfl hn ?_
  refine tt_cast [1, 2, 0] rfl rfl (l_mo_readPort_153 hC a1 x2 hk1 4  y0 (tt_pA st 64 (Int32.toNatClampNeg (tt_I st 49 17)) (tt_I st 49 24)) hl hn (by omega) (mo_rp_w hw) ?_)
  refine r_aload_n 0 hC d_mo_readPort_207 rfl ?_
  refine r_dup hC d_mo_readPort_208 rfl ?_
  refine r_getI hC d_mo_readPort_209 fl_mo_115 rfl rfl ?_
  refine r_iconst (v := 1) hC d_mo_readPort_212 (by decide) ?_
  refine r_iadd hC d_mo_readPort_213 ?_
  refine r_putI hC d_mo_readPort_214 fl_mo_115 fp_5_17 rfl rfl rfl rfl ?_
  refine r_iload_n 1 hC d_mo_readPort_217 rfl ?_
  exact r_iret hC hR d_mo_readPort_218 rfl rfl
def mo_readPort_k105 (a1 : Int32) (x2 : Int32) (y0 : Int32) (st : tt_St) : Int32 × tt_St := (if (tt_I (tt_pA st 63 (Int32.toNatClampNeg (tt_I st 49 17)) (tt_I st 49 24)) 49 16) = 0 then (if x2 = 3 then (mo_readPort_k139 a1 x2 ((mo_readNumber (tt_pA st 63 (Int32.toNatClampNeg (tt_I st 49 17)) (tt_I st 49 24)) y0 0 99).1) ((mo_readNumber (tt_pA st 63 (Int32.toNatClampNeg (tt_I st 49 17)) (tt_I st 49 24)) y0 0 99).2)) else (((mo_readPort_l153 a1 x2 4 y0 (tt_pA st 63 (Int32.toNatClampNeg (tt_I st 49 17)) (tt_I st 49 24))).1), tt_pI ((mo_readPort_l153 a1 x2 4 y0 (tt_pA st 63 (Int32.toNatClampNeg (tt_I st 49 17)) (tt_I st 49 24))).2) 49 17 ((tt_I ((mo_readPort_l153 a1 x2 4 y0 (tt_pA st 63 (Int32.toNatClampNeg (tt_I st 49 17)) (tt_I st 49 24))).2) 49 17) + 1))) else (((mo_readPort_l153 a1 x2 4 y0 (tt_pA st 63 (Int32.toNatClampNeg (tt_I st 49 17)) (tt_I st 49 24))).1), tt_pI ((mo_readPort_l153 a1 x2 4 y0 (tt_pA st 63 (Int32.toNatClampNeg (tt_I st 49 17)) (tt_I st 49 24))).2) 49 17 ((tt_I ((mo_readPort_l153 a1 x2 4 y0 (tt_pA st 63 (Int32.toNatClampNeg (tt_I st 49 17)) (tt_I st 49 24))).2) 49 17) + 1)))
set_option maxHeartbeats 4000000 in
set_option maxRecDepth 20000 in
theorem l_mo_readPort_105 {G : tt_G} {κ : tt_X (Int32 × tt_St)} (hC : tt_Cx G κ prog_7_method_15_code "TideTableModel" 4 4 90) (a1 : Int32) (hR : tt_Rt G κ (some .int) (fun r => (some (.int r.1), r.2))) (hk1 : 0 ≤ a1.toInt ∧ a1.toInt ≤ 500) (x2 : Int32) (y0 : Int32) (st : tt_St) (hl : mo_pl st) (hn : vp_in (tt_I st 49 17) 4) (hw : tt_A st 65 (Int32.toNatClampNeg (tt_I st 49 17)) = 0) (hk : 0 ≤ y0.toInt ∧ y0.toInt ≤ 505) : tt_V G κ (mo_readPort_k105 a1 x2 y0 st) st 105 [(0, .ref (tt_ad G 49)), (2, .int x2)] [.int y0] := by
  rw [mo_readPort_k105]
  refine r_istore_n [(3, .int y0), (0, .ref (tt_ad G 49)), (2, .int x2)] hC d_mo_readPort_105 rfl (by decide) rfl ?_
  refine r_aload_n 1 hC d_mo_readPort_106 rfl ?_
  refine r_getR (r := 63) hC d_mo_readPort_107 fl_mo_50 rfl rfl rfl ?_
  refine r_aload_n 1 hC d_mo_readPort_110 rfl ?_
  refine r_getI hC d_mo_readPort_111 fl_mo_115 rfl rfl ?_
  refine r_aload_n 1 hC d_mo_readPort_114 rfl ?_
  refine r_getI hC d_mo_readPort_115 fl_mo_112 rfl rfl ?_
  refine r_iast (n := 4) hC d_mo_readPort_118 rfl (by decide) rfl rfl hn ?_
  refine r_aload_n 1 hC d_mo_readPort_119 rfl ?_
  refine r_getI hC d_mo_readPort_120 fl_mo_108 rfl rfl ?_
  refine r_if_ne (tgt := 153) hC d_mo_readPort_123 (by decide) (fun c_123 => ?_) (fun c_123 => ?_)
  ·
    refine tt_cast [1, 2, 0] rfl rfl (l_mo_readPort_153 hC a1 x2 hk1 4  y0 (tt_pA st 63 (Int32.toNatClampNeg (tt_I st 49 17)) (tt_I st 49 24)) hl hn (by omega) (mo_rp_w hw) ?_)
    refine r_aload_n 0 hC d_mo_readPort_207 rfl ?_
    refine r_dup hC d_mo_readPort_208 rfl ?_
    refine r_getI hC d_mo_readPort_209 fl_mo_115 rfl rfl ?_
    refine r_iconst (v := 1) hC d_mo_readPort_212 (by decide) ?_
    refine r_iadd hC d_mo_readPort_213 ?_
    refine r_putI hC d_mo_readPort_214 fl_mo_115 fp_5_17 rfl rfl rfl rfl ?_
    refine r_iload_n 1 hC d_mo_readPort_217 rfl ?_
    exact r_iret hC hR d_mo_readPort_218 rfl rfl
  ·
    refine r_iload_n 2 hC d_mo_readPort_126 rfl ?_
    refine r_iconst (v := 3) hC d_mo_readPort_127 (by decide) ?_
    refine r_icmp_ne (tgt := 153) hC d_mo_readPort_128 (by decide) (fun c_128 => ?_) (fun c_128 => ?_)
    ·
      refine tt_cast [1, 2, 0] rfl rfl (l_mo_readPort_153 hC a1 x2 hk1 4  y0 (tt_pA st 63 (Int32.toNatClampNeg (tt_I st 49 17)) (tt_I st 49 24)) hl hn (by omega) (mo_rp_w hw) ?_)
      refine r_aload_n 0 hC d_mo_readPort_207 rfl ?_
      refine r_dup hC d_mo_readPort_208 rfl ?_
      refine r_getI hC d_mo_readPort_209 fl_mo_115 rfl rfl ?_
      refine r_iconst (v := 1) hC d_mo_readPort_212 (by decide) ?_
      refine r_iadd hC d_mo_readPort_213 ?_
      refine r_putI hC d_mo_readPort_214 fl_mo_115 fp_5_17 rfl rfl rfl rfl ?_
      refine r_iload_n 1 hC d_mo_readPort_217 rfl ?_
      exact r_iret hC hR d_mo_readPort_218 rfl rfl
    ·
      refine r_aload_n 1 hC d_mo_readPort_131 rfl ?_
      refine r_iload_n 0 hC d_mo_readPort_132 rfl ?_
      refine r_iconst (v := 0) hC d_mo_readPort_133 (by decide) ?_
      refine r_bipush (v := 99) hC d_mo_readPort_134 (by decide) ?_
      refine r_callV (o := 49) (rest := []) (stk1 := [.int (mo_readNumber (tt_pA st 63 (Int32.toNatClampNeg (tt_I st 49 17)) (tt_I st 49 24)) y0 0 99).1]) hC d_mo_readPort_136 (c_mo_readNumber G (tt_pA st 63 (Int32.toNatClampNeg (tt_I st 49 17)) (tt_I st 49 24)) y0 0 99 hl (by omega)) mw_mo_readNumber mi_mo_readNumber mz_mo_readNumber ml_mo_118 rfl rfl rfl rfl rfl (Nat.le_of_ble_eq_true rfl) rfl ?_
      exact tt_cast [1, 2] rfl rfl (l_mo_readPort_139 hC a1 hR hk1 x2 ((mo_readNumber (tt_pA st 63 (Int32.toNatClampNeg (tt_I st 49 17)) (tt_I st 49 24)) y0 0 99).1) ((mo_readNumber (tt_pA st 63 (Int32.toNatClampNeg (tt_I st 49 17)) (tt_I st 49 24)) y0 0 99).2) (mo_rn_pl hl) (mo_rn_np hn) (by rw [mo_rn_A, mo_rn_I (by decide) (by decide)]; exact hw) (mo_rp_k2 hk (by decide) (by decide)))
def mo_readPort_k76 (a1 : Int32) (x2 : Int32) (y0 : Int32) (st : tt_St) : Int32 × tt_St := (if (tt_I (tt_pA st 62 (Int32.toNatClampNeg (tt_I st 49 17)) (tt_I st 49 24)) 49 16) = 0 then (mo_readPort_k105 a1 x2 ((mo_readNumber (tt_pA st 62 (Int32.toNatClampNeg (tt_I st 49 17)) (tt_I st 49 24)) y0 0 99).1) ((mo_readNumber (tt_pA st 62 (Int32.toNatClampNeg (tt_I st 49 17)) (tt_I st 49 24)) y0 0 99).2)) else (if (tt_I (tt_pA st 62 (Int32.toNatClampNeg (tt_I st 49 17)) (tt_I st 49 24)) 49 16) = 0 then (if x2 = 3 then (mo_readPort_k139 a1 x2 ((mo_readNumber (tt_pA st 62 (Int32.toNatClampNeg (tt_I st 49 17)) (tt_I st 49 24)) y0 0 99).1) ((mo_readNumber (tt_pA st 62 (Int32.toNatClampNeg (tt_I st 49 17)) (tt_I st 49 24)) y0 0 99).2)) else (((mo_readPort_l153 a1 x2 4 y0 (tt_pA st 62 (Int32.toNatClampNeg (tt_I st 49 17)) (tt_I st 49 24))).1), tt_pI ((mo_readPort_l153 a1 x2 4 y0 (tt_pA st 62 (Int32.toNatClampNeg (tt_I st 49 17)) (tt_I st 49 24))).2) 49 17 ((tt_I ((mo_readPort_l153 a1 x2 4 y0 (tt_pA st 62 (Int32.toNatClampNeg (tt_I st 49 17)) (tt_I st 49 24))).2) 49 17) + 1))) else (((mo_readPort_l153 a1 x2 4 y0 (tt_pA st 62 (Int32.toNatClampNeg (tt_I st 49 17)) (tt_I st 49 24))).1), tt_pI ((mo_readPort_l153 a1 x2 4 y0 (tt_pA st 62 (Int32.toNatClampNeg (tt_I st 49 17)) (tt_I st 49 24))).2) 49 17 ((tt_I ((mo_readPort_l153 a1 x2 4 y0 (tt_pA st 62 (Int32.toNatClampNeg (tt_I st 49 17)) (tt_I st 49 24))).2) 49 17) + 1))))
set_option maxHeartbeats 4000000 in
set_option maxRecDepth 20000 in
theorem l_mo_readPort_76 {G : tt_G} {κ : tt_X (Int32 × tt_St)} (hC : tt_Cx G κ prog_7_method_15_code "TideTableModel" 4 4 90) (a1 : Int32) (hR : tt_Rt G κ (some .int) (fun r => (some (.int r.1), r.2))) (hk1 : 0 ≤ a1.toInt ∧ a1.toInt ≤ 500) (x2 : Int32) (y0 : Int32) (st : tt_St) (hl : mo_pl st) (hn : vp_in (tt_I st 49 17) 4) (hw : tt_A st 65 (Int32.toNatClampNeg (tt_I st 49 17)) = 0) (hk : 0 ≤ y0.toInt ∧ y0.toInt ≤ 503) : tt_V G κ (mo_readPort_k76 a1 x2 y0 st) st 76 [(0, .ref (tt_ad G 49)), (2, .int x2)] [.int y0] := by
  rw [mo_readPort_k76]
  refine r_istore_n [(3, .int y0), (0, .ref (tt_ad G 49)), (2, .int x2)] hC d_mo_readPort_76 rfl (by decide) rfl ?_
  refine r_aload_n 1 hC d_mo_readPort_77 rfl ?_
  refine r_getR (r := 62) hC d_mo_readPort_78 fl_mo_47 rfl rfl rfl ?_
  refine r_aload_n 1 hC d_mo_readPort_81 rfl ?_
  refine r_getI hC d_mo_readPort_82 fl_mo_115 rfl rfl ?_
  refine r_aload_n 1 hC d_mo_readPort_85 rfl ?_
  refine r_getI hC d_mo_readPort_86 fl_mo_112 rfl rfl ?_
  refine r_iast (n := 4) hC d_mo_readPort_89 rfl (by decide) rfl rfl hn ?_
  refine r_aload_n 1 hC d_mo_readPort_90 rfl ?_
  refine r_getI hC d_mo_readPort_91 fl_mo_108 rfl rfl ?_
  refine r_if_ne (tgt := 119) hC d_mo_readPort_94 (by decide) (fun c_94 => ?_) (fun c_94 => ?_)
  ·
    refine r_aload_n 1 hC d_mo_readPort_119 rfl ?_
    refine r_getI hC d_mo_readPort_120 fl_mo_108 rfl rfl ?_
    refine r_if_ne (tgt := 153) hC d_mo_readPort_123 (by decide) (fun c_123 => ?_) (fun c_123 => ?_)
    ·
      refine tt_cast [1, 2, 0] rfl rfl (l_mo_readPort_153 hC a1 x2 hk1 4  y0 (tt_pA st 62 (Int32.toNatClampNeg (tt_I st 49 17)) (tt_I st 49 24)) hl hn (by omega) (mo_rp_w hw) ?_)
      refine r_aload_n 0 hC d_mo_readPort_207 rfl ?_
      refine r_dup hC d_mo_readPort_208 rfl ?_
      refine r_getI hC d_mo_readPort_209 fl_mo_115 rfl rfl ?_
      refine r_iconst (v := 1) hC d_mo_readPort_212 (by decide) ?_
      refine r_iadd hC d_mo_readPort_213 ?_
      refine r_putI hC d_mo_readPort_214 fl_mo_115 fp_5_17 rfl rfl rfl rfl ?_
      refine r_iload_n 1 hC d_mo_readPort_217 rfl ?_
      exact r_iret hC hR d_mo_readPort_218 rfl rfl
    ·
      refine r_iload_n 2 hC d_mo_readPort_126 rfl ?_
      refine r_iconst (v := 3) hC d_mo_readPort_127 (by decide) ?_
      refine r_icmp_ne (tgt := 153) hC d_mo_readPort_128 (by decide) (fun c_128 => ?_) (fun c_128 => ?_)
      ·
        refine tt_cast [1, 2, 0] rfl rfl (l_mo_readPort_153 hC a1 x2 hk1 4  y0 (tt_pA st 62 (Int32.toNatClampNeg (tt_I st 49 17)) (tt_I st 49 24)) hl hn (by omega) (mo_rp_w hw) ?_)
        refine r_aload_n 0 hC d_mo_readPort_207 rfl ?_
        refine r_dup hC d_mo_readPort_208 rfl ?_
        refine r_getI hC d_mo_readPort_209 fl_mo_115 rfl rfl ?_
        refine r_iconst (v := 1) hC d_mo_readPort_212 (by decide) ?_
        refine r_iadd hC d_mo_readPort_213 ?_
        refine r_putI hC d_mo_readPort_214 fl_mo_115 fp_5_17 rfl rfl rfl rfl ?_
        refine r_iload_n 1 hC d_mo_readPort_217 rfl ?_
        exact r_iret hC hR d_mo_readPort_218 rfl rfl
      ·
        refine r_aload_n 1 hC d_mo_readPort_131 rfl ?_
        refine r_iload_n 0 hC d_mo_readPort_132 rfl ?_
        refine r_iconst (v := 0) hC d_mo_readPort_133 (by decide) ?_
        refine r_bipush (v := 99) hC d_mo_readPort_134 (by decide) ?_
        refine r_callV (o := 49) (rest := []) (stk1 := [.int (mo_readNumber (tt_pA st 62 (Int32.toNatClampNeg (tt_I st 49 17)) (tt_I st 49 24)) y0 0 99).1]) hC d_mo_readPort_136 (c_mo_readNumber G (tt_pA st 62 (Int32.toNatClampNeg (tt_I st 49 17)) (tt_I st 49 24)) y0 0 99 hl (by omega)) mw_mo_readNumber mi_mo_readNumber mz_mo_readNumber ml_mo_118 rfl rfl rfl rfl rfl (Nat.le_of_ble_eq_true rfl) rfl ?_
        exact tt_cast [1, 2] rfl rfl (l_mo_readPort_139 hC a1 hR hk1 x2 ((mo_readNumber (tt_pA st 62 (Int32.toNatClampNeg (tt_I st 49 17)) (tt_I st 49 24)) y0 0 99).1) ((mo_readNumber (tt_pA st 62 (Int32.toNatClampNeg (tt_I st 49 17)) (tt_I st 49 24)) y0 0 99).2) (mo_rn_pl hl) (mo_rn_np hn) (by rw [mo_rn_A, mo_rn_I (by decide) (by decide)]; exact hw) (mo_rp_k2 hk (by decide) (by decide)))
  ·
    refine r_aload_n 1 hC d_mo_readPort_97 rfl ?_
    refine r_iload_n 0 hC d_mo_readPort_98 rfl ?_
    refine r_iconst (v := 0) hC d_mo_readPort_99 (by decide) ?_
    refine r_bipush (v := 99) hC d_mo_readPort_100 (by decide) ?_
    refine r_callV (o := 49) (rest := []) (stk1 := [.int (mo_readNumber (tt_pA st 62 (Int32.toNatClampNeg (tt_I st 49 17)) (tt_I st 49 24)) y0 0 99).1]) hC d_mo_readPort_102 (c_mo_readNumber G (tt_pA st 62 (Int32.toNatClampNeg (tt_I st 49 17)) (tt_I st 49 24)) y0 0 99 hl (by omega)) mw_mo_readNumber mi_mo_readNumber mz_mo_readNumber ml_mo_118 rfl rfl rfl rfl rfl (Nat.le_of_ble_eq_true rfl) rfl ?_
    exact tt_cast [1, 2] rfl rfl (l_mo_readPort_105 hC a1 hR hk1 x2 ((mo_readNumber (tt_pA st 62 (Int32.toNatClampNeg (tt_I st 49 17)) (tt_I st 49 24)) y0 0 99).1) ((mo_readNumber (tt_pA st 62 (Int32.toNatClampNeg (tt_I st 49 17)) (tt_I st 49 24)) y0 0 99).2) (mo_rn_pl hl) (mo_rn_np hn) (by rw [mo_rn_A, mo_rn_I (by decide) (by decide)]; exact hw) (mo_rp_k2 hk (by decide) (by decide)))
def mo_readPort (st : tt_St) (a1 : Int32) : Int32 × tt_St := (if (mo_kindBy (mo_at st a1)) = (-10001) then (a1, tt_pI st 49 16 1) else (if (mo_kindBy (mo_at st a1)) = 3 then (if (tt_I st 49 17) = 0 then (a1, tt_pI st 49 16 1) else (mo_readPort_k76 a1 (mo_kindBy (mo_at st a1)) ((mo_readNumber (tt_pA (tt_pA (tt_pA st 61 (Int32.toNatClampNeg (tt_I st 49 17)) (mo_kindBy (mo_at st a1))) 65 (Int32.toNatClampNeg (tt_I (tt_pA st 61 (Int32.toNatClampNeg (tt_I st 49 17)) (mo_kindBy (mo_at st a1))) 49 17)) 0) 64 (Int32.toNatClampNeg (tt_I (tt_pA (tt_pA st 61 (Int32.toNatClampNeg (tt_I st 49 17)) (mo_kindBy (mo_at st a1))) 65 (Int32.toNatClampNeg (tt_I (tt_pA st 61 (Int32.toNatClampNeg (tt_I st 49 17)) (mo_kindBy (mo_at st a1))) 49 17)) 0) 49 17)) 50) (a1 + 1) 0 99).1) ((mo_readNumber (tt_pA (tt_pA (tt_pA st 61 (Int32.toNatClampNeg (tt_I st 49 17)) (mo_kindBy (mo_at st a1))) 65 (Int32.toNatClampNeg (tt_I (tt_pA st 61 (Int32.toNatClampNeg (tt_I st 49 17)) (mo_kindBy (mo_at st a1))) 49 17)) 0) 64 (Int32.toNatClampNeg (tt_I (tt_pA (tt_pA st 61 (Int32.toNatClampNeg (tt_I st 49 17)) (mo_kindBy (mo_at st a1))) 65 (Int32.toNatClampNeg (tt_I (tt_pA st 61 (Int32.toNatClampNeg (tt_I st 49 17)) (mo_kindBy (mo_at st a1))) 49 17)) 0) 49 17)) 50) (a1 + 1) 0 99).2))) else (mo_readPort_k76 a1 (mo_kindBy (mo_at st a1)) ((mo_readNumber (tt_pA (tt_pA (tt_pA st 61 (Int32.toNatClampNeg (tt_I st 49 17)) (mo_kindBy (mo_at st a1))) 65 (Int32.toNatClampNeg (tt_I (tt_pA st 61 (Int32.toNatClampNeg (tt_I st 49 17)) (mo_kindBy (mo_at st a1))) 49 17)) 0) 64 (Int32.toNatClampNeg (tt_I (tt_pA (tt_pA st 61 (Int32.toNatClampNeg (tt_I st 49 17)) (mo_kindBy (mo_at st a1))) 65 (Int32.toNatClampNeg (tt_I (tt_pA st 61 (Int32.toNatClampNeg (tt_I st 49 17)) (mo_kindBy (mo_at st a1))) 49 17)) 0) 49 17)) 50) (a1 + 1) 0 99).1) ((mo_readNumber (tt_pA (tt_pA (tt_pA st 61 (Int32.toNatClampNeg (tt_I st 49 17)) (mo_kindBy (mo_at st a1))) 65 (Int32.toNatClampNeg (tt_I (tt_pA st 61 (Int32.toNatClampNeg (tt_I st 49 17)) (mo_kindBy (mo_at st a1))) 49 17)) 0) 64 (Int32.toNatClampNeg (tt_I (tt_pA (tt_pA st 61 (Int32.toNatClampNeg (tt_I st 49 17)) (mo_kindBy (mo_at st a1))) 65 (Int32.toNatClampNeg (tt_I (tt_pA st 61 (Int32.toNatClampNeg (tt_I st 49 17)) (mo_kindBy (mo_at st a1))) 49 17)) 0) 49 17)) 50) (a1 + 1) 0 99).2))))
set_option maxHeartbeats 4000000 in
set_option maxRecDepth 20000 in
theorem c_mo_readPort (G : tt_G) (st : tt_St) (a1 : Int32) (hl : mo_pl st) (hk1 : 0 ≤ a1.toInt ∧ a1.toInt ≤ 500) (hn : vp_in (tt_I st 49 17) 4) : tt_C y_mo_readPort prog_7_method_15_code 4 (some .int) 4 90 G [.ref (tt_ad G 49), .int a1] st (some (.int (mo_readPort st a1).1)) (mo_readPort st a1).2 := by
  refine tt_enter (α := Int32 × tt_St) (mk := fun r => (some (.int r.1), r.2)) (T := (mo_readPort st a1)) (by decide +kernel) (Nat.le_of_ble_eq_true rfl) (fun κ hC hR => ?_)
  rw [mo_readPort]
  refine r_aload_n 0 hC d_mo_readPort_0 rfl ?_
  refine r_iload_n 1 hC d_mo_readPort_1 rfl ?_
  refine r_callV (o := 49) (rest := []) (stk1 := [.int (mo_at st a1)]) hC d_mo_readPort_2 (c_mo_at G st a1 hl hk1.1) mw_mo_at mi_mo_at mz_mo_at ml_mo_101 rfl rfl rfl rfl rfl (Nat.le_of_ble_eq_true rfl) rfl ?_
  refine r_callS (rest := []) (stk1 := [.int (mo_kindBy (mo_at st a1))]) hC d_mo_readPort_5 (c_mo_kindBy G st (mo_at st a1)) mw_mo_kindBy ms_mo_kindBy ml_mo_122 rfl rfl rfl (Nat.le_of_ble_eq_true rfl) rfl ?_
  refine r_istore_n [(2, .int (mo_kindBy (mo_at st a1))), (0, .ref (tt_ad G 49)), (1, .int a1)] hC d_mo_readPort_8 rfl (by decide) rfl ?_
  refine r_iload_n 0 hC d_mo_readPort_9 rfl ?_
  refine r_sipush (v := (-10001)) hC d_mo_readPort_10 (by decide) ?_
  refine r_icmp_eq (tgt := 28) hC d_mo_readPort_13 (by decide) (fun c_13 => ?_) (fun c_13 => ?_)
  ·
    refine r_aload_n 1 hC d_mo_readPort_28 rfl ?_
    refine r_iconst (v := 1) hC d_mo_readPort_29 (by decide) ?_
    refine r_putI hC d_mo_readPort_30 fl_mo_108 fp_5_16 rfl rfl rfl rfl ?_
    refine r_iload_n 2 hC d_mo_readPort_33 rfl ?_
    exact r_iret hC hR d_mo_readPort_34 rfl rfl
  ·
    refine r_iload_n 0 hC d_mo_readPort_16 rfl ?_
    refine r_iconst (v := 3) hC d_mo_readPort_17 (by decide) ?_
    refine r_icmp_ne (tgt := 35) hC d_mo_readPort_18 (by decide) (fun c_18 => ?_) (fun c_18 => ?_)
    ·
      refine r_aload_n 1 hC d_mo_readPort_35 rfl ?_
      refine r_getR (r := 61) hC d_mo_readPort_36 fl_mo_44 rfl rfl rfl ?_
      refine r_aload_n 1 hC d_mo_readPort_39 rfl ?_
      refine r_getI hC d_mo_readPort_40 fl_mo_115 rfl rfl ?_
      refine r_iload_n 0 hC d_mo_readPort_43 rfl ?_
      refine r_iast (n := 4) hC d_mo_readPort_44 rfl (by decide) rfl rfl hn ?_
      refine r_aload_n 1 hC d_mo_readPort_45 rfl ?_
      refine r_getR (r := 65) hC d_mo_readPort_46 fl_mo_56 rfl rfl rfl ?_
      refine r_aload_n 1 hC d_mo_readPort_49 rfl ?_
      refine r_getI hC d_mo_readPort_50 fl_mo_115 rfl rfl ?_
      refine r_iconst (v := 0) hC d_mo_readPort_53 (by decide) ?_
      refine r_iast (n := 4) hC d_mo_readPort_54 rfl (by decide) rfl rfl hn ?_
      refine r_aload_n 1 hC d_mo_readPort_55 rfl ?_
      refine r_getR (r := 64) hC d_mo_readPort_56 fl_mo_53 rfl rfl rfl ?_
      refine r_aload_n 1 hC d_mo_readPort_59 rfl ?_
      refine r_getI hC d_mo_readPort_60 fl_mo_115 rfl rfl ?_
      refine r_bipush (v := 50) hC d_mo_readPort_63 (by decide) ?_
      refine r_iast (n := 4) hC d_mo_readPort_65 rfl (by decide) rfl rfl hn ?_
      refine r_aload_n 1 hC d_mo_readPort_66 rfl ?_
      refine r_iload_n 2 hC d_mo_readPort_67 rfl ?_
      refine r_iconst (v := 1) hC d_mo_readPort_68 (by decide) ?_
      refine r_iadd hC d_mo_readPort_69 ?_
      refine r_iconst (v := 0) hC d_mo_readPort_70 (by decide) ?_
      refine r_bipush (v := 99) hC d_mo_readPort_71 (by decide) ?_
      refine r_callV (o := 49) (rest := []) (stk1 := [.int (mo_readNumber (tt_pA (tt_pA (tt_pA st 61 (Int32.toNatClampNeg (tt_I st 49 17)) (mo_kindBy (mo_at st a1))) 65 (Int32.toNatClampNeg (tt_I (tt_pA st 61 (Int32.toNatClampNeg (tt_I st 49 17)) (mo_kindBy (mo_at st a1))) 49 17)) 0) 64 (Int32.toNatClampNeg (tt_I (tt_pA (tt_pA st 61 (Int32.toNatClampNeg (tt_I st 49 17)) (mo_kindBy (mo_at st a1))) 65 (Int32.toNatClampNeg (tt_I (tt_pA st 61 (Int32.toNatClampNeg (tt_I st 49 17)) (mo_kindBy (mo_at st a1))) 49 17)) 0) 49 17)) 50) (a1 + 1) 0 99).1]) hC d_mo_readPort_73 (c_mo_readNumber G (tt_pA (tt_pA (tt_pA st 61 (Int32.toNatClampNeg (tt_I st 49 17)) (mo_kindBy (mo_at st a1))) 65 (Int32.toNatClampNeg (tt_I (tt_pA st 61 (Int32.toNatClampNeg (tt_I st 49 17)) (mo_kindBy (mo_at st a1))) 49 17)) 0) 64 (Int32.toNatClampNeg (tt_I (tt_pA (tt_pA st 61 (Int32.toNatClampNeg (tt_I st 49 17)) (mo_kindBy (mo_at st a1))) 65 (Int32.toNatClampNeg (tt_I (tt_pA st 61 (Int32.toNatClampNeg (tt_I st 49 17)) (mo_kindBy (mo_at st a1))) 49 17)) 0) 49 17)) 50) (a1 + 1) 0 99 hl (by have e := tt_addn (a := a1) (b := 1) (n := 1) rfl (by omega) (by omega); omega)) mw_mo_readNumber mi_mo_readNumber mz_mo_readNumber ml_mo_118 rfl rfl rfl rfl rfl (Nat.le_of_ble_eq_true rfl) rfl ?_
      exact tt_cast [1, 0] rfl rfl (l_mo_readPort_76 hC a1 hR hk1 (mo_kindBy (mo_at st a1)) ((mo_readNumber (tt_pA (tt_pA (tt_pA st 61 (Int32.toNatClampNeg (tt_I st 49 17)) (mo_kindBy (mo_at st a1))) 65 (Int32.toNatClampNeg (tt_I (tt_pA st 61 (Int32.toNatClampNeg (tt_I st 49 17)) (mo_kindBy (mo_at st a1))) 49 17)) 0) 64 (Int32.toNatClampNeg (tt_I (tt_pA (tt_pA st 61 (Int32.toNatClampNeg (tt_I st 49 17)) (mo_kindBy (mo_at st a1))) 65 (Int32.toNatClampNeg (tt_I (tt_pA st 61 (Int32.toNatClampNeg (tt_I st 49 17)) (mo_kindBy (mo_at st a1))) 49 17)) 0) 49 17)) 50) (a1 + 1) 0 99).1) ((mo_readNumber (tt_pA (tt_pA (tt_pA st 61 (Int32.toNatClampNeg (tt_I st 49 17)) (mo_kindBy (mo_at st a1))) 65 (Int32.toNatClampNeg (tt_I (tt_pA st 61 (Int32.toNatClampNeg (tt_I st 49 17)) (mo_kindBy (mo_at st a1))) 49 17)) 0) 64 (Int32.toNatClampNeg (tt_I (tt_pA (tt_pA st 61 (Int32.toNatClampNeg (tt_I st 49 17)) (mo_kindBy (mo_at st a1))) 65 (Int32.toNatClampNeg (tt_I (tt_pA st 61 (Int32.toNatClampNeg (tt_I st 49 17)) (mo_kindBy (mo_at st a1))) 49 17)) 0) 49 17)) 50) (a1 + 1) 0 99).2) (mo_rn_pl hl) (mo_rn_np hn) (by rw [mo_rn_A, mo_rn_I (by decide) (by decide)]; simp [tt_A, tt_pA, tt_I]) (mo_rp_k hk1))
    ·
      refine r_aload_n 1 hC d_mo_readPort_21 rfl ?_
      refine r_getI hC d_mo_readPort_22 fl_mo_115 rfl rfl ?_
      refine r_if_ne (tgt := 35) hC d_mo_readPort_25 (by decide) (fun c_25 => ?_) (fun c_25 => ?_)
      ·
        refine r_aload_n 1 hC d_mo_readPort_35 rfl ?_
        refine r_getR (r := 61) hC d_mo_readPort_36 fl_mo_44 rfl rfl rfl ?_
        refine r_aload_n 1 hC d_mo_readPort_39 rfl ?_
        refine r_getI hC d_mo_readPort_40 fl_mo_115 rfl rfl ?_
        refine r_iload_n 0 hC d_mo_readPort_43 rfl ?_
        refine r_iast (n := 4) hC d_mo_readPort_44 rfl (by decide) rfl rfl hn ?_
        refine r_aload_n 1 hC d_mo_readPort_45 rfl ?_
        refine r_getR (r := 65) hC d_mo_readPort_46 fl_mo_56 rfl rfl rfl ?_
        refine r_aload_n 1 hC d_mo_readPort_49 rfl ?_
        refine r_getI hC d_mo_readPort_50 fl_mo_115 rfl rfl ?_
        refine r_iconst (v := 0) hC d_mo_readPort_53 (by decide) ?_
        refine r_iast (n := 4) hC d_mo_readPort_54 rfl (by decide) rfl rfl hn ?_
        refine r_aload_n 1 hC d_mo_readPort_55 rfl ?_
        refine r_getR (r := 64) hC d_mo_readPort_56 fl_mo_53 rfl rfl rfl ?_
        refine r_aload_n 1 hC d_mo_readPort_59 rfl ?_
        refine r_getI hC d_mo_readPort_60 fl_mo_115 rfl rfl ?_
        refine r_bipush (v := 50) hC d_mo_readPort_63 (by decide) ?_
        refine r_iast (n := 4) hC d_mo_readPort_65 rfl (by decide) rfl rfl hn ?_
        refine r_aload_n 1 hC d_mo_readPort_66 rfl ?_
        refine r_iload_n 2 hC d_mo_readPort_67 rfl ?_
        refine r_iconst (v := 1) hC d_mo_readPort_68 (by decide) ?_
        refine r_iadd hC d_mo_readPort_69 ?_
        refine r_iconst (v := 0) hC d_mo_readPort_70 (by decide) ?_
        refine r_bipush (v := 99) hC d_mo_readPort_71 (by decide) ?_
        refine r_callV (o := 49) (rest := []) (stk1 := [.int (mo_readNumber (tt_pA (tt_pA (tt_pA st 61 (Int32.toNatClampNeg (tt_I st 49 17)) (mo_kindBy (mo_at st a1))) 65 (Int32.toNatClampNeg (tt_I (tt_pA st 61 (Int32.toNatClampNeg (tt_I st 49 17)) (mo_kindBy (mo_at st a1))) 49 17)) 0) 64 (Int32.toNatClampNeg (tt_I (tt_pA (tt_pA st 61 (Int32.toNatClampNeg (tt_I st 49 17)) (mo_kindBy (mo_at st a1))) 65 (Int32.toNatClampNeg (tt_I (tt_pA st 61 (Int32.toNatClampNeg (tt_I st 49 17)) (mo_kindBy (mo_at st a1))) 49 17)) 0) 49 17)) 50) (a1 + 1) 0 99).1]) hC d_mo_readPort_73 (c_mo_readNumber G (tt_pA (tt_pA (tt_pA st 61 (Int32.toNatClampNeg (tt_I st 49 17)) (mo_kindBy (mo_at st a1))) 65 (Int32.toNatClampNeg (tt_I (tt_pA st 61 (Int32.toNatClampNeg (tt_I st 49 17)) (mo_kindBy (mo_at st a1))) 49 17)) 0) 64 (Int32.toNatClampNeg (tt_I (tt_pA (tt_pA st 61 (Int32.toNatClampNeg (tt_I st 49 17)) (mo_kindBy (mo_at st a1))) 65 (Int32.toNatClampNeg (tt_I (tt_pA st 61 (Int32.toNatClampNeg (tt_I st 49 17)) (mo_kindBy (mo_at st a1))) 49 17)) 0) 49 17)) 50) (a1 + 1) 0 99 hl (by have e := tt_addn (a := a1) (b := 1) (n := 1) rfl (by omega) (by omega); omega)) mw_mo_readNumber mi_mo_readNumber mz_mo_readNumber ml_mo_118 rfl rfl rfl rfl rfl (Nat.le_of_ble_eq_true rfl) rfl ?_
        exact tt_cast [1, 0] rfl rfl (l_mo_readPort_76 hC a1 hR hk1 (mo_kindBy (mo_at st a1)) ((mo_readNumber (tt_pA (tt_pA (tt_pA st 61 (Int32.toNatClampNeg (tt_I st 49 17)) (mo_kindBy (mo_at st a1))) 65 (Int32.toNatClampNeg (tt_I (tt_pA st 61 (Int32.toNatClampNeg (tt_I st 49 17)) (mo_kindBy (mo_at st a1))) 49 17)) 0) 64 (Int32.toNatClampNeg (tt_I (tt_pA (tt_pA st 61 (Int32.toNatClampNeg (tt_I st 49 17)) (mo_kindBy (mo_at st a1))) 65 (Int32.toNatClampNeg (tt_I (tt_pA st 61 (Int32.toNatClampNeg (tt_I st 49 17)) (mo_kindBy (mo_at st a1))) 49 17)) 0) 49 17)) 50) (a1 + 1) 0 99).1) ((mo_readNumber (tt_pA (tt_pA (tt_pA st 61 (Int32.toNatClampNeg (tt_I st 49 17)) (mo_kindBy (mo_at st a1))) 65 (Int32.toNatClampNeg (tt_I (tt_pA st 61 (Int32.toNatClampNeg (tt_I st 49 17)) (mo_kindBy (mo_at st a1))) 49 17)) 0) 64 (Int32.toNatClampNeg (tt_I (tt_pA (tt_pA st 61 (Int32.toNatClampNeg (tt_I st 49 17)) (mo_kindBy (mo_at st a1))) 65 (Int32.toNatClampNeg (tt_I (tt_pA st 61 (Int32.toNatClampNeg (tt_I st 49 17)) (mo_kindBy (mo_at st a1))) 49 17)) 0) 49 17)) 50) (a1 + 1) 0 99).2) (mo_rn_pl hl) (mo_rn_np hn) (by rw [mo_rn_A, mo_rn_I (by decide) (by decide)]; simp [tt_A, tt_pA, tt_I]) (mo_rp_k hk1))
      ·
        refine r_aload_n 1 hC d_mo_readPort_28 rfl ?_
        refine r_iconst (v := 1) hC d_mo_readPort_29 (by decide) ?_
        refine r_putI hC d_mo_readPort_30 fl_mo_108 fp_5_16 rfl rfl rfl rfl ?_
        refine r_iload_n 2 hC d_mo_readPort_33 rfl ?_
        exact r_iret hC hR d_mo_readPort_34 rfl rfl

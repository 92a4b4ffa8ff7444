/-! TideTableModel.ports()I -/
def mo_ports_l26 (m : Nat) : Nat → Nat → tt_St → tt_St
  | 0, j, st => st
  | n + 1, j, st => (mo_ports_l26 m n (j + 1) (tt_pA (tt_pA (tt_pA (tt_pA (tt_pA st 50 (Int32.toNatClampNeg (nI j)) (tt_A st 61 (Int32.toNatClampNeg (nI j)))) 51 (Int32.toNatClampNeg (nI j)) (tt_A (tt_pA st 50 (Int32.toNatClampNeg (nI j)) (tt_A st 61 (Int32.toNatClampNeg (nI j)))) 62 (Int32.toNatClampNeg (nI j)))) 52 (Int32.toNatClampNeg (nI j)) (tt_A (tt_pA (tt_pA st 50 (Int32.toNatClampNeg (nI j)) (tt_A st 61 (Int32.toNatClampNeg (nI j)))) 51 (Int32.toNatClampNeg (nI j)) (tt_A (tt_pA st 50 (Int32.toNatClampNeg (nI j)) (tt_A st 61 (Int32.toNatClampNeg (nI j)))) 62 (Int32.toNatClampNeg (nI j)))) 63 (Int32.toNatClampNeg (nI j)))) 53 (Int32.toNatClampNeg (nI j)) (tt_A (tt_pA (tt_pA (tt_pA st 50 (Int32.toNatClampNeg (nI j)) (tt_A st 61 (Int32.toNatClampNeg (nI j)))) 51 (Int32.toNatClampNeg (nI j)) (tt_A (tt_pA st 50 (Int32.toNatClampNeg (nI j)) (tt_A st 61 (Int32.toNatClampNeg (nI j)))) 62 (Int32.toNatClampNeg (nI j)))) 52 (Int32.toNatClampNeg (nI j)) (tt_A (tt_pA (tt_pA st 50 (Int32.toNatClampNeg (nI j)) (tt_A st 61 (Int32.toNatClampNeg (nI j)))) 51 (Int32.toNatClampNeg (nI j)) (tt_A (tt_pA st 50 (Int32.toNatClampNeg (nI j)) (tt_A st 61 (Int32.toNatClampNeg (nI j)))) 62 (Int32.toNatClampNeg (nI j)))) 63 (Int32.toNatClampNeg (nI j)))) 64 (Int32.toNatClampNeg (nI j)))) 54 (Int32.toNatClampNeg (nI j)) (tt_A (tt_pA (tt_pA (tt_pA (tt_pA st 50 (Int32.toNatClampNeg (nI j)) (tt_A st 61 (Int32.toNatClampNeg (nI j)))) 51 (Int32.toNatClampNeg (nI j)) (tt_A (tt_pA st 50 (Int32.toNatClampNeg (nI j)) (tt_A st 61 (Int32.toNatClampNeg (nI j)))) 62 (Int32.toNatClampNeg (nI j)))) 52 (Int32.toNatClampNeg (nI j)) (tt_A (tt_pA (tt_pA st 50 (Int32.toNatClampNeg (nI j)) (tt_A st 61 (Int32.toNatClampNeg (nI j)))) 51 (Int32.toNatClampNeg (nI j)) (tt_A (tt_pA st 50 (Int32.toNatClampNeg (nI j)) (tt_A st 61 (Int32.toNatClampNeg (nI j)))) 62 (Int32.toNatClampNeg (nI j)))) 63 (Int32.toNatClampNeg (nI j)))) 53 (Int32.toNatClampNeg (nI j)) (tt_A (tt_pA (tt_pA (tt_pA st 50 (Int32.toNatClampNeg (nI j)) (tt_A st 61 (Int32.toNatClampNeg (nI j)))) 51 (Int32.toNatClampNeg (nI j)) (tt_A (tt_pA st 50 (Int32.toNatClampNeg (nI j)) (tt_A st 61 (Int32.toNatClampNeg (nI j)))) 62 (Int32.toNatClampNeg (nI j)))) 52 (Int32.toNatClampNeg (nI j)) (tt_A (tt_pA (tt_pA st 50 (Int32.toNatClampNeg (nI j)) (tt_A st 61 (Int32.toNatClampNeg (nI j)))) 51 (Int32.toNatClampNeg (nI j)) (tt_A (tt_pA st 50 (Int32.toNatClampNeg (nI j)) (tt_A st 61 (Int32.toNatClampNeg (nI j)))) 62 (Int32.toNatClampNeg (nI j)))) 63 (Int32.toNatClampNeg (nI j)))) 64 (Int32.toNatClampNeg (nI j)))) 65 (Int32.toNatClampNeg (nI j)))))
set_option maxHeartbeats 4000000 in
set_option maxRecDepth 20000 in
theorem l_mo_ports_26 {α : Type} {G : tt_G} {κ : tt_X α} {T : α} (hC : tt_Cx G κ prog_7_method_18_code "TideTableModel" 2 6 134) (m : Nat) (hm4 : m ≤ 4) : ∀ (n j : Nat) (st : tt_St), j + n = m → tt_I st 49 1 = nI m → tt_V G κ T (mo_ports_l26 m n j st) 100 [(0, .ref (tt_ad G 49))] [] → tt_V G κ T st 26 [(0, .ref (tt_ad G 49)), (1, .int (nI j))] [] := by
  intro n
  induction n with
  | zero =>
    intro j st hj hb k
    refine r_iload_n 1 hC d_mo_ports_26 rfl ?_
    refine r_aload_n 0 hC d_mo_ports_27 rfl ?_
    refine r_getI hC d_mo_ports_28 fl_mo_138 rfl rfl ?_
    refine t_icmp_ge (tgt := 100) hC d_mo_ports_31 (by decide) (by rw [hb]; exact nI_le (by omega) (by omega)) ?_
    exact tt_cast [0] rfl rfl k
  | succ n ih =>
    intro j st hj hb k
    refine r_iload_n 1 hC d_mo_ports_26 rfl ?_
    refine r_aload_n 0 hC d_mo_ports_27 rfl ?_
    refine r_getI hC d_mo_ports_28 fl_mo_138 rfl rfl ?_
    refine f_icmp_ge (tgt := 100) hC d_mo_ports_31 (by decide) (by rw [hb]; exact nI_ge (a := j) (b := m) (by omega) (by omega)) ?_
    refine r_aload_n 0 hC d_mo_ports_34 rfl ?_
    refine r_getR (r := 50) hC d_mo_ports_35 fl_mo_7 rfl rfl rfl ?_
    refine r_iload_n 1 hC d_mo_ports_38 rfl ?_
    refine r_aload_n 0 hC d_mo_ports_39 rfl ?_
    refine r_getR (r := 61) hC d_mo_ports_40 fl_mo_44 rfl rfl rfl ?_
    refine r_iload_n 1 hC d_mo_ports_43 rfl ?_
    refine r_iald (n := 4) hC d_mo_ports_44 rfl (by decide) rfl rfl (vp_in_nI (by omega) (by omega)) ?_
    refine r_iast (n := 4) hC d_mo_ports_45 rfl (by decide) rfl rfl (vp_in_nI (by omega) (by omega)) ?_
    refine r_aload_n 0 hC d_mo_ports_46 rfl ?_
    refine r_getR (r := 51) hC d_mo_ports_47 fl_mo_13 rfl rfl rfl ?_
    refine r_iload_n 1 hC d_mo_ports_50 rfl ?_
    refine r_aload_n 0 hC d_mo_ports_51 rfl ?_
    refine r_getR (r := 62) hC d_mo_ports_52 fl_mo_47 rfl rfl rfl ?_
    refine r_iload_n 1 hC d_mo_ports_55 rfl ?_
    refine r_iald (n := 4) hC d_mo_ports_56 rfl (by decide) rfl rfl (vp_in_nI (by omega) (by omega)) ?_
    refine r_iast (n := 4) hC d_mo_ports_57 rfl (by decide) rfl rfl (vp_in_nI (by omega) (by omega)) ?_
    refine r_aload_n 0 hC d_mo_ports_58 rfl ?_
    refine r_getR (r := 52) hC d_mo_ports_59 fl_mo_16 rfl rfl rfl ?_
    refine r_iload_n 1 hC d_mo_ports_62 rfl ?_
    refine r_aload_n 0 hC d_mo_ports_63 rfl ?_
    refine r_getR (r := 63) hC d_mo_ports_64 fl_mo_50 rfl rfl rfl ?_
    refine r_iload_n 1 hC d_mo_ports_67 rfl ?_
    refine r_iald (n := 4) hC d_mo_ports_68 rfl (by decide) rfl rfl (vp_in_nI (by omega) (by omega)) ?_
    refine r_iast (n := 4) hC d_mo_ports_69 rfl (by decide) rfl rfl (vp_in_nI (by omega) (by omega)) ?_
    refine r_aload_n 0 hC d_mo_ports_70 rfl ?_
    refine r_getR (r := 53) hC d_mo_ports_71 fl_mo_19 rfl rfl rfl ?_
    refine r_iload_n 1 hC d_mo_ports_74 rfl ?_
    refine r_aload_n 0 hC d_mo_ports_75 rfl ?_
    refine r_getR (r := 64) hC d_mo_ports_76 fl_mo_53 rfl rfl rfl ?_
    refine r_iload_n 1 hC d_mo_ports_79 rfl ?_
    refine r_iald (n := 4) hC d_mo_ports_80 rfl (by decide) rfl rfl (vp_in_nI (by omega) (by omega)) ?_
    refine r_iast (n := 4) hC d_mo_ports_81 rfl (by decide) rfl rfl (vp_in_nI (by omega) (by omega)) ?_
    refine r_aload_n 0 hC d_mo_ports_82 rfl ?_
    refine r_getR (r := 54) hC d_mo_ports_83 fl_mo_22 rfl rfl rfl ?_
    refine r_iload_n 1 hC d_mo_ports_86 rfl ?_
    refine r_aload_n 0 hC d_mo_ports_87 rfl ?_
    refine r_getR (r := 65) hC d_mo_ports_88 fl_mo_56 rfl rfl rfl ?_
    refine r_iload_n 1 hC d_mo_ports_91 rfl ?_
    refine r_iald (n := 4) hC d_mo_ports_92 rfl (by decide) rfl rfl (vp_in_nI (by omega) (by omega)) ?_
    refine r_iast (n := 4) hC d_mo_ports_93 rfl (by decide) rfl rfl (vp_in_nI (by omega) (by omega)) ?_
    refine r_iinc 1 (nI (j + 1)) [(1, .int (nI (j + 1))), (0, .ref (tt_ad G 49))] hC d_mo_ports_94 rfl (by rw [nI_succ]; rfl) (by decide) rfl ?_
    refine r_goto (tgt := 26) hC d_mo_ports_97 (by decide) ?_
    exact tt_cast [1, 0] rfl rfl (ih (j + 1) (tt_pA (tt_pA (tt_pA (tt_pA (tt_pA st 50 (Int32.toNatClampNeg (nI j)) (tt_A st 61 (Int32.toNatClampNeg (nI j)))) 51 (Int32.toNatClampNeg (nI j)) (tt_A (tt_pA st 50 (Int32.toNatClampNeg (nI j)) (tt_A st 61 (Int32.toNatClampNeg (nI j)))) 62 (Int32.toNatClampNeg (nI j)))) 52 (Int32.toNatClampNeg (nI j)) (tt_A (tt_pA (tt_pA st 50 (Int32.toNatClampNeg (nI j)) (tt_A st 61 (Int32.toNatClampNeg (nI j)))) 51 (Int32.toNatClampNeg (nI j)) (tt_A (tt_pA st 50 (Int32.toNatClampNeg (nI j)) (tt_A st 61 (Int32.toNatClampNeg (nI j)))) 62 (Int32.toNatClampNeg (nI j)))) 63 (Int32.toNatClampNeg (nI j)))) 53 (Int32.toNatClampNeg (nI j)) (tt_A (tt_pA (tt_pA (tt_pA st 50 (Int32.toNatClampNeg (nI j)) (tt_A st 61 (Int32.toNatClampNeg (nI j)))) 51 (Int32.toNatClampNeg (nI j)) (tt_A (tt_pA st 50 (Int32.toNatClampNeg (nI j)) (tt_A st 61 (Int32.toNatClampNeg (nI j)))) 62 (Int32.toNatClampNeg (nI j)))) 52 (Int32.toNatClampNeg (nI j)) (tt_A (tt_pA (tt_pA st 50 (Int32.toNatClampNeg (nI j)) (tt_A st 61 (Int32.toNatClampNeg (nI j)))) 51 (Int32.toNatClampNeg (nI j)) (tt_A (tt_pA st 50 (Int32.toNatClampNeg (nI j)) (tt_A st 61 (Int32.toNatClampNeg (nI j)))) 62 (Int32.toNatClampNeg (nI j)))) 63 (Int32.toNatClampNeg (nI j)))) 64 (Int32.toNatClampNeg (nI j)))) 54 (Int32.toNatClampNeg (nI j)) (tt_A (tt_pA (tt_pA (tt_pA (tt_pA st 50 (Int32.toNatClampNeg (nI j)) (tt_A st 61 (Int32.toNatClampNeg (nI j)))) 51 (Int32.toNatClampNeg (nI j)) (tt_A (tt_pA st 50 (Int32.toNatClampNeg (nI j)) (tt_A st 61 (Int32.toNatClampNeg (nI j)))) 62 (Int32.toNatClampNeg (nI j)))) 52 (Int32.toNatClampNeg (nI j)) (tt_A (tt_pA (tt_pA st 50 (Int32.toNatClampNeg (nI j)) (tt_A st 61 (Int32.toNatClampNeg (nI j)))) 51 (Int32.toNatClampNeg (nI j)) (tt_A (tt_pA st 50 (Int32.toNatClampNeg (nI j)) (tt_A st 61 (Int32.toNatClampNeg (nI j)))) 62 (Int32.toNatClampNeg (nI j)))) 63 (Int32.toNatClampNeg (nI j)))) 53 (Int32.toNatClampNeg (nI j)) (tt_A (tt_pA (tt_pA (tt_pA st 50 (Int32.toNatClampNeg (nI j)) (tt_A st 61 (Int32.toNatClampNeg (nI j)))) 51 (Int32.toNatClampNeg (nI j)) (tt_A (tt_pA st 50 (Int32.toNatClampNeg (nI j)) (tt_A st 61 (Int32.toNatClampNeg (nI j)))) 62 (Int32.toNatClampNeg (nI j)))) 52 (Int32.toNatClampNeg (nI j)) (tt_A (tt_pA (tt_pA st 50 (Int32.toNatClampNeg (nI j)) (tt_A st 61 (Int32.toNatClampNeg (nI j)))) 51 (Int32.toNatClampNeg (nI j)) (tt_A (tt_pA st 50 (Int32.toNatClampNeg (nI j)) (tt_A st 61 (Int32.toNatClampNeg (nI j)))) 62 (Int32.toNatClampNeg (nI j)))) 63 (Int32.toNatClampNeg (nI j)))) 64 (Int32.toNatClampNeg (nI j)))) 65 (Int32.toNatClampNeg (nI j)))) (by omega) hb (by simpa only [mo_ports_l26] using k))
def mo_ports_l102  : Nat → Nat → tt_St → tt_St
  | 0, j, st => st
  | n + 1, j, st => (mo_ports_l102 n (j + 1) (tt_pA st 55 (Int32.toNatClampNeg (nI j)) (tt_A st 66 (Int32.toNatClampNeg (nI j)))))
set_option maxHeartbeats 4000000 in
set_option maxRecDepth 20000 in
theorem l_mo_ports_102 {α : Type} {G : tt_G} {κ : tt_X α} {T : α} (hC : tt_Cx G κ prog_7_method_18_code "TideTableModel" 2 6 134)   : ∀ (n j : Nat) (st : tt_St), j + n = 36 → tt_V G κ T (mo_ports_l102 n j st) 126 [(0, .ref (tt_ad G 49))] [] → tt_V G κ T st 102 [(0, .ref (tt_ad G 49)), (1, .int (nI j))] [] := by
  intro n
  induction n with
  | zero =>
    intro j st hj k
    refine r_iload_n 1 hC d_mo_ports_102 rfl ?_
    refine r_bipush (v := 36) hC d_mo_ports_103 (by decide) ?_
    refine t_icmp_ge (tgt := 126) hC d_mo_ports_105 (by decide) (nI_le (a := 36) (by omega) (by omega)) ?_
    exact tt_cast [0] rfl rfl k
  | succ n ih =>
    intro j st hj k
    refine r_iload_n 1 hC d_mo_ports_102 rfl ?_
    refine r_bipush (v := 36) hC d_mo_ports_103 (by decide) ?_
    refine f_icmp_ge (tgt := 126) hC d_mo_ports_105 (by decide) (nI_ge (a := j) (b := 36) (by omega) (by omega)) ?_
    refine r_aload_n 0 hC d_mo_ports_108 rfl ?_
    refine r_getR (r := 55) hC d_mo_ports_109 fl_mo_25 rfl rfl rfl ?_
    refine r_iload_n 1 hC d_mo_ports_112 rfl ?_
    refine r_aload_n 0 hC d_mo_ports_113 rfl ?_
    refine r_getR (r := 66) hC d_mo_ports_114 fl_mo_59 rfl rfl rfl ?_
    refine r_iload_n 1 hC d_mo_ports_117 rfl ?_
    refine r_iald (n := 36) hC d_mo_ports_118 rfl (by decide) rfl rfl (vp_in_nI (by omega) (by omega)) ?_
    refine r_iast (n := 36) hC d_mo_ports_119 rfl (by decide) rfl rfl (vp_in_nI (by omega) (by omega)) ?_
    refine r_iinc 1 (nI (j + 1)) [(1, .int (nI (j + 1))), (0, .ref (tt_ad G 49))] hC d_mo_ports_120 rfl (by rw [nI_succ]; rfl) (by decide) rfl ?_
    refine r_goto (tgt := 102) hC d_mo_ports_123 (by decide) ?_
    exact tt_cast [1, 0] rfl rfl (ih (j + 1) (tt_pA st 55 (Int32.toNatClampNeg (nI j)) (tt_A st 66 (Int32.toNatClampNeg (nI j)))) (by omega) (by simpa only [mo_ports_l102] using k))
def mo_ports_k4  (y0 : Int32) (st : tt_St) : Int32 × tt_St := (if (tt_I st 49 15) = 0 then ((-10103), st) else ((tt_I (tt_pI (tt_pI (tt_pI (mo_ports_l102 36 0 (mo_ports_l26 (Int32.toNatClampNeg (tt_I st 49 17)) (Int32.toNatClampNeg (tt_I st 49 17)) 0 (tt_pI st 49 1 (tt_I st 49 17)))) 49 0 ((tt_I (mo_ports_l102 36 0 (mo_ports_l26 (Int32.toNatClampNeg (tt_I st 49 17)) (Int32.toNatClampNeg (tt_I st 49 17)) 0 (tt_pI st 49 1 (tt_I st 49 17)))) 49 0) + 1)) 49 9 0) 49 13 0) 49 1), tt_pI (tt_pI (tt_pI (mo_ports_l102 36 0 (mo_ports_l26 (Int32.toNatClampNeg (tt_I st 49 17)) (Int32.toNatClampNeg (tt_I st 49 17)) 0 (tt_pI st 49 1 (tt_I st 49 17)))) 49 0 ((tt_I (mo_ports_l102 36 0 (mo_ports_l26 (Int32.toNatClampNeg (tt_I st 49 17)) (Int32.toNatClampNeg (tt_I st 49 17)) 0 (tt_pI st 49 1 (tt_I st 49 17)))) 49 0) + 1)) 49 9 0) 49 13 0))
set_option maxHeartbeats 4000000 in
set_option maxRecDepth 20000 in
theorem l_mo_ports_4 {G : tt_G} {κ : tt_X (Int32 × tt_St)} (hC : tt_Cx G κ prog_7_method_18_code "TideTableModel" 2 6 134)  (hR : tt_Rt G κ (some .int) (fun r => (some (.int r.1), r.2)))  (y0 : Int32) (st : tt_St) (hn : 0 ≤ (tt_I st 49 17).toInt ∧ (tt_I st 49 17).toInt ≤ 4) : tt_V G κ (mo_ports_k4 y0 st) st 4 [(0, .ref (tt_ad G 49))] [.int y0] := by
  rw [mo_ports_k4]
  refine r_pop hC d_mo_ports_4 rfl ?_
  refine r_aload_n 0 hC d_mo_ports_5 rfl ?_
  refine r_getI hC d_mo_ports_6 fl_mo_128 rfl rfl ?_
  refine r_if_ne (tgt := 16) hC d_mo_ports_9 (by decide) (fun c_9 => ?_) (fun c_9 => ?_)
  ·
    refine r_aload_n 0 hC d_mo_ports_16 rfl ?_
    refine r_aload_n 0 hC d_mo_ports_17 rfl ?_
    refine r_getI hC d_mo_ports_18 fl_mo_115 rfl rfl ?_
    refine r_putI hC d_mo_ports_21 fl_mo_138 fp_5_1 rfl rfl rfl rfl ?_
    refine r_iconst (v := 0) hC d_mo_ports_24 (by decide) ?_
    refine r_istore_n [(1, .int 0), (0, .ref (tt_ad G 49))] hC d_mo_ports_25 rfl (by decide) rfl ?_
    refine tt_cast [1, 0] rfl rfl (l_mo_ports_26 hC (Int32.toNatClampNeg (tt_I st 49 17)) (tt_cle hn.2) (Int32.toNatClampNeg (tt_I st 49 17)) 0 (tt_pI st 49 1 (tt_I st 49 17)) (by omega) (tt_nIc hn.1).symm ?_)
    refine r_iconst (v := 0) hC d_mo_ports_100 (by decide) ?_
    refine r_istore_n [(1, .int 0), (0, .ref (tt_ad G 49))] hC d_mo_ports_101 rfl (by decide) rfl ?_
    refine tt_cast [1, 0] rfl rfl (l_mo_ports_102 hC   36 0 (mo_ports_l26 (Int32.toNatClampNeg (tt_I st 49 17)) (Int32.toNatClampNeg (tt_I st 49 17)) 0 (tt_pI st 49 1 (tt_I st 49 17))) (by omega)  ?_)
    refine r_aload_n 0 hC d_mo_ports_126 rfl ?_
    refine r_dup hC d_mo_ports_127 rfl ?_
    refine r_getI hC d_mo_ports_128 fl_mo_141 rfl rfl ?_
    refine r_iconst (v := 1) hC d_mo_ports_131 (by decide) ?_
    refine r_iadd hC d_mo_ports_132 ?_
    refine r_putI hC d_mo_ports_133 fl_mo_141 fp_5_0 rfl rfl rfl rfl ?_
    refine r_aload_n 0 hC d_mo_ports_136 rfl ?_
    refine r_iconst (v := 0) hC d_mo_ports_137 (by decide) ?_
    refine r_putI hC d_mo_ports_138 fl_mo_144 fp_5_9 rfl rfl rfl rfl ?_
    refine r_aload_n 0 hC d_mo_ports_141 rfl ?_
    refine r_iconst (v := 0) hC d_mo_ports_142 (by decide) ?_
    refine r_putI hC d_mo_ports_143 fl_mo_97 fp_5_13 rfl rfl rfl rfl ?_
    refine r_aload_n 0 hC d_mo_ports_146 rfl ?_
    refine r_getI hC d_mo_ports_147 fl_mo_138 rfl rfl ?_
    exact r_iret_si hC hR d_mo_ports_150 rfl
  ·
    refine r_sipush (v := (-10103)) hC d_mo_ports_12 (by decide) ?_
    exact r_iret_si hC hR d_mo_ports_15 rfl
def mo_ports (st : tt_St) : Int32 × tt_St := (mo_ports_k4 ((mo_read st).1) ((mo_read st).2))
set_option maxHeartbeats 4000000 in
set_option maxRecDepth 20000 in
theorem c_mo_ports (G : tt_G) (st : tt_St)  (hl : mo_pl st) : tt_C y_mo_ports prog_7_method_18_code 2 (some .int) 6 134 G [.ref (tt_ad G 49)] st (some (.int (mo_ports st).1)) (mo_ports st).2 := by
  refine tt_enter_si (T := (mo_ports st)) (by decide +kernel) (Nat.le_of_ble_eq_true rfl) (fun κ hC hR => ?_)
  rw [mo_ports]
  refine r_aload_n 0 hC d_mo_ports_0 rfl ?_
  refine r_callV (o := 49) (rest := []) (stk1 := [.int (mo_read st).1]) hC d_mo_ports_1 (c_mo_read G st hl) mw_mo_read mi_mo_read mz_mo_read ml_mo_134 rfl rfl rfl rfl rfl (Nat.le_of_ble_eq_true rfl) rfl ?_
  exact tt_cast [0] rfl rfl (l_mo_ports_4 hC  hR  ((mo_read st).1) ((mo_read st).2) mo_read_np)
/-! TideTableModel.draw(I)I -/
def mo_draw (st : tt_St) (a1 : Int32) : Int32 × tt_St := ((Int64.toInt32 (((tt_L (tt_pL st 49 25 (((1103515245 * (tt_L st 49 25)) + 12345) &&& 2147483647)) 49 25) / 65536) - ((tt_L (tt_pL st 49 25 (((1103515245 * (tt_L st 49 25)) + 12345) &&& 2147483647)) 49 25) / 65536) / (Int32.toInt64 a1) * (Int32.toInt64 a1))), tt_pL st 49 25 (((1103515245 * (tt_L st 49 25)) + 12345) &&& 2147483647))
set_option maxHeartbeats 4000000 in
set_option maxRecDepth 20000 in
theorem c_mo_draw (G : tt_G) (st : tt_St) (a1 : Int32) (hd : ¬ a1.toInt64 = 0) : tt_C y_mo_draw prog_7_method_66_code 2 (some .int) 0 0 G [.ref (tt_ad G 49), .int a1] st (some (.int (mo_draw st a1).1)) (mo_draw st a1).2 := by
  refine tt_enter_si (T := (mo_draw st a1)) (by decide +kernel) (Nat.le_of_ble_eq_true rfl) (fun κ hC hR => ?_)
  rw [mo_draw]
  refine r_aload_n 0 hC d_mo_draw_0 rfl ?_
  refine r_ldc2 hC d_mo_draw_1 k_mo_239 ?_
  refine r_aload_n 0 hC d_mo_draw_4 rfl ?_
  refine r_getL hC d_mo_draw_5 fl_mo_241 rfl rfl ?_
  refine r_lmul hC d_mo_draw_8 ?_
  refine r_ldc2 hC d_mo_draw_9 k_mo_245 ?_
  refine r_ladd hC d_mo_draw_12 ?_
  refine r_ldc2 hC d_mo_draw_13 k_mo_247 ?_
  refine r_land hC d_mo_draw_16 ?_
  refine r_putL hC d_mo_draw_17 fl_mo_241 fp_5_25 rfl rfl ?_
  refine r_aload_n 0 hC d_mo_draw_20 rfl ?_
  refine r_getL hC d_mo_draw_21 fl_mo_241 rfl rfl ?_
  refine r_ldc2 hC d_mo_draw_24 k_mo_249 ?_
  refine r_ldiv hC d_mo_draw_27 (by decide) ?_
  refine r_iload_n 1 hC d_mo_draw_28 rfl ?_
  refine r_i2l hC d_mo_draw_29 ?_
  refine r_lrem hC d_mo_draw_30 hd ?_
  refine r_l2i hC d_mo_draw_31 ?_
  exact r_iret_si hC hR d_mo_draw_32 rfl

/-! TideTableModel.readWave(I)I -/
def mo_readWave_l25 (a1 : Int32) (x2 : Int32) : Nat → Nat → Int32 → tt_St → Int32 × tt_St
  | 0, j, x3, st => (x3, st)
  | n + 1, j, x3, st => (if (tt_I st 49 16) = 0 then (mo_readWave_l25 a1 x2 n (j + 1) ((mo_readNumber st x3 (if (nI j) = 0 then 1 else 0 : Int32) (if (nI j) = 2 then 63 else 99 : Int32)).1) (tt_pA ((mo_readNumber st x3 (if (nI j) = 0 then 1 else 0 : Int32) (if (nI j) = 2 then 63 else 99 : Int32)).2) 66 (Int32.toNatClampNeg (x2 + (nI j))) (tt_I ((mo_readNumber st x3 (if (nI j) = 0 then 1 else 0 : Int32) (if (nI j) = 2 then 63 else 99 : Int32)).2) 49 24))) else (x3, st))
set_option maxHeartbeats 4000000 in
set_option maxRecDepth 20000 in
theorem l_mo_readWave_25 {α : Type} {G : tt_G} {κ : tt_X α} {T : α} (hC : tt_Cx G κ prog_7_method_14_code "TideTableModel" 5 3 66) (a1 : Int32) (x2 : Int32) (hk : 0 ≤ a1.toInt ∧ a1.toInt ≤ 900) (hw2 : 0 ≤ x2.toInt ∧ x2.toInt ≤ 33) : ∀ (n j : Nat) (x3 : Int32) (st : tt_St), j + n = 3 → mo_pl st → 0 ≤ x3.toInt ∧ x3.toInt ≤ 900 + 2 * (j : Int) → tt_V G κ T ((mo_readWave_l25 a1 x2 n j x3 st).2) 86 [(0, .ref (tt_ad G 49)), (3, .int ((mo_readWave_l25 a1 x2 n j x3 st).1))] [] → tt_V G κ T st 25 [(0, .ref (tt_ad G 49)), (2, .int x2), (3, .int x3), (4, .int (nI j))] [] := by
  intro n
  induction n with
  | zero =>
    intro j x3 st hj hl hk2 k
    refine r_iload 3 hC d_mo_readWave_25 rfl ?_
    refine r_iconst (v := 3) hC d_mo_readWave_27 (by decide) ?_
    refine t_icmp_ge (tgt := 86) hC d_mo_readWave_28 (by decide) (nI_le (a := 3) (by omega) (by omega)) ?_
    exact tt_cast [0, 2] rfl rfl k
  | succ n ih =>
    intro j x3 st hj hl hk2 k
    refine r_iload 3 hC d_mo_readWave_25 rfl ?_
    refine r_iconst (v := 3) hC d_mo_readWave_27 (by decide) ?_
    refine f_icmp_ge (tgt := 86) hC d_mo_readWave_28 (by decide) (nI_ge (a := j) (b := 3) (by omega) (by omega)) ?_
    refine r_aload_n 0 hC d_mo_readWave_31 rfl ?_
    refine r_getI hC d_mo_readWave_32 fl_mo_108 rfl rfl ?_
    refine j_if_ne (tgt := 86) hC d_mo_readWave_35 (by decide) (fun c_35 => ?_) (fun c_35 => ?_)
    ·
      exact tt_cast (lv' := [(0, .ref (tt_ad G 49)), (3, .int x3)]) [0, 2] rfl rfl (by simpa only [mo_readWave_l25, if_neg c_35] using k)
    ·
      refine r_aload_n 0 hC d_mo_readWave_38 rfl ?_
      refine r_iload_n 2 hC d_mo_readWave_39 rfl ?_
      refine r_iload 3 hC d_mo_readWave_40 rfl ?_
      refine tt_join 50 [(0, .ref (tt_ad G 49)), (2, .int x2), (4, .int (nI j))] [.int (if (nI j) = 0 then 1 else 0 : Int32), .int x3, .ref (tt_ad G 49)] ?_ (fun kj_42 => ?_)
      ·
        refine r_iload 2 hC d_mo_readWave_50 rfl ?_
        refine r_iconst (v := 2) hC d_mo_readWave_52 (by decide) ?_
        refine tt_join 63 [(0, .ref (tt_ad G 49)), (2, .int x2), (4, .int (nI j))] [.int (if (nI j) = 2 then 63 else 99 : Int32), .int (if (nI j) = 0 then 1 else 0 : Int32), .int x3, .ref (tt_ad G 49)] ?_ (fun kj_53 => ?_)
        ·
          refine r_callV (o := 49) (rest := []) (stk1 := [.int (mo_readNumber st x3 (if (nI j) = 0 then 1 else 0 : Int32) (if (nI j) = 2 then 63 else 99 : Int32)).1]) hC d_mo_readWave_63 (c_mo_readNumber G st x3 (if (nI j) = 0 then 1 else 0 : Int32) (if (nI j) = 2 then 63 else 99 : Int32) hl (by omega)) mw_mo_readNumber mi_mo_readNumber mz_mo_readNumber ml_mo_118 rfl rfl rfl rfl rfl (Nat.le_of_ble_eq_true rfl) rfl ?_
          refine r_istore_n [(3, .int (mo_readNumber st x3 (if (nI j) = 0 then 1 else 0 : Int32) (if (nI j) = 2 then 63 else 99 : Int32)).1), (0, .ref (tt_ad G 49)), (2, .int x2), (4, .int (nI j))] hC d_mo_readWave_66 rfl (by decide) rfl ?_
          refine r_aload_n 1 hC d_mo_readWave_67 rfl ?_
          refine r_getR (r := 66) hC d_mo_readWave_68 fl_mo_59 rfl rfl rfl ?_
          refine r_iload_n 2 hC d_mo_readWave_71 rfl ?_
          refine r_iload 3 hC d_mo_readWave_72 rfl ?_
          refine r_iadd hC d_mo_readWave_74 ?_
          refine r_aload_n 1 hC d_mo_readWave_75 rfl ?_
          refine r_getI hC d_mo_readWave_76 fl_mo_112 rfl rfl ?_
          refine r_iast (n := 36) hC d_mo_readWave_79 rfl (by decide) rfl rfl (tt_w36 hw2 (by omega)) ?_
          refine r_iinc 3 (nI (j + 1)) [(4, .int (nI (j + 1))), (3, .int (mo_readNumber st x3 (if (nI j) = 0 then 1 else 0 : Int32) (if (nI j) = 2 then 63 else 99 : Int32)).1), (0, .ref (tt_ad G 49)), (2, .int x2)] hC d_mo_readWave_80 rfl (by rw [nI_succ]; rfl) (by decide) rfl ?_
          refine r_goto (tgt := 25) hC d_mo_readWave_83 (by decide) ?_
          exact tt_cast [2, 3, 1, 0] rfl rfl (ih (j + 1) ((mo_readNumber st x3 (if (nI j) = 0 then 1 else 0 : Int32) (if (nI j) = 2 then 63 else 99 : Int32)).1) (tt_pA ((mo_readNumber st x3 (if (nI j) = 0 then 1 else 0 : Int32) (if (nI j) = 2 then 63 else 99 : Int32)).2) 66 (Int32.toNatClampNeg (x2 + (nI j))) (tt_I ((mo_readNumber st x3 (if (nI j) = 0 then 1 else 0 : Int32) (if (nI j) = 2 then 63 else 99 : Int32)).2) 49 24)) (by omega) (mo_rn_pl hl) (mo_rn_step hk2 (by omega)) (by simpa only [mo_readWave_l25, if_pos c_35] using k))
        ·
          refine j_icmp_ne (tgt := 61) hC d_mo_readWave_53 (by decide) (fun c_53 => ?_) (fun c_53 => ?_)
          ·
            refine r_bipush (v := 99) hC d_mo_readWave_61 (by decide) ?_
            exact tt_cast [0, 1, 2] rfl (by simp only [if_neg c_53]) kj_53
          ·
            refine r_bipush (v := 63) hC d_mo_readWave_56 (by decide) ?_
            refine r_goto (tgt := 63) hC d_mo_readWave_58 (by decide) ?_
            exact tt_cast [0, 1, 2] rfl (by simp only [if_pos c_53]) kj_53
      ·
        refine j_if_ne (tgt := 49) hC d_mo_readWave_42 (by decide) (fun c_42 => ?_) (fun c_42 => ?_)
        ·
          refine r_iconst (v := 0) hC d_mo_readWave_49 (by decide) ?_
          exact tt_cast [0, 1, 3] rfl (by simp only [if_neg c_42]) kj_42
        ·
          refine r_iconst (v := 1) hC d_mo_readWave_45 (by decide) ?_
          refine r_goto (tgt := 50) hC d_mo_readWave_46 (by decide) ?_
          exact tt_cast [0, 1, 3] rfl (by simp only [if_pos c_42]) kj_42
theorem mo_readWave_pres {a1 x2 : Int32} : ∀ (n j : Nat) (x3 : Int32) (st : tt_St), (∀ f, f ≠ 16 → f ≠ 24 → tt_I (mo_readWave_l25 a1 x2 n j x3 st).2 49 f = tt_I st 49 f) ∧ (∀ a, a ≠ 66 → tt_A (mo_readWave_l25 a1 x2 n j x3 st).2 a = tt_A st a) := by
  intro n
  induction n with
  | zero => intro j x3 st; exact ⟨fun _ _ _ => rfl, fun _ _ => rfl⟩
  | succ n ih =>
    intro j x3 st
    rw [mo_readWave_l25]
    split
    · obtain ⟨h1, h2⟩ := ih (j + 1) (mo_readNumber st x3 (if nI j = 0 then 1 else 0 : Int32) (if nI j = 2 then 63 else 99 : Int32)).1 (tt_pA (mo_readNumber st x3 (if nI j = 0 then 1 else 0 : Int32) (if nI j = 2 then 63 else 99 : Int32)).2 66 (Int32.toNatClampNeg (x2 + (nI j))) (tt_I (mo_readNumber st x3 (if nI j = 0 then 1 else 0 : Int32) (if nI j = 2 then 63 else 99 : Int32)).2 49 24))
      refine ⟨fun f hf hf2 => ?_, fun a ha => ?_⟩
      · rw [h1 f hf hf2]
        exact mo_rn_I hf hf2
      · rw [h2 a ha]
        funext i
        have : ¬ a = 66 := ha
        simp only [tt_A, tt_pA, this, false_and, if_false]
        exact congrFun (congrFun (mo_rn_A (st := st)) a) i
    · exact ⟨fun _ _ _ => rfl, fun _ _ => rfl⟩
theorem mo_readWave_np {a1 x2 : Int32} {n j : Nat} {x3 : Int32} {st : tt_St} : tt_I (mo_readWave_l25 a1 x2 n j x3 st).2 49 17 = tt_I st 49 17 := (mo_readWave_pres n j x3 st).1 17 (by decide) (by decide)
def mo_readWave (st : tt_St) (a1 : Int32) : Int32 × tt_St := (((mo_readWave_l25 a1 ((9 * (tt_I st 49 17)) + (3 * (tt_A st 65 (Int32.toNatClampNeg (tt_I st 49 17))))) 3 0 a1 st).1), tt_pA ((mo_readWave_l25 a1 ((9 * (tt_I st 49 17)) + (3 * (tt_A st 65 (Int32.toNatClampNeg (tt_I st 49 17))))) 3 0 a1 st).2) 65 (Int32.toNatClampNeg (tt_I ((mo_readWave_l25 a1 ((9 * (tt_I st 49 17)) + (3 * (tt_A st 65 (Int32.toNatClampNeg (tt_I st 49 17))))) 3 0 a1 st).2) 49 17)) ((tt_A ((mo_readWave_l25 a1 ((9 * (tt_I st 49 17)) + (3 * (tt_A st 65 (Int32.toNatClampNeg (tt_I st 49 17))))) 3 0 a1 st).2) 65 (Int32.toNatClampNeg (tt_I ((mo_readWave_l25 a1 ((9 * (tt_I st 49 17)) + (3 * (tt_A st 65 (Int32.toNatClampNeg (tt_I st 49 17))))) 3 0 a1 st).2) 49 17))) + 1))
set_option maxHeartbeats 4000000 in
set_option maxRecDepth 20000 in
theorem c_mo_readWave (G : tt_G) (st : tt_St) (a1 : Int32) (hl : mo_pl st) (hk : 0 ≤ a1.toInt ∧ a1.toInt ≤ 900) (hn : vp_in (tt_I st 49 17) 4) (hw : vp_in (tt_A st 65 (Int32.toNatClampNeg (tt_I st 49 17))) 3) : tt_C y_mo_readWave prog_7_method_14_code 5 (some .int) 3 66 G [.ref (tt_ad G 49), .int a1] st (some (.int (mo_readWave st a1).1)) (mo_readWave st a1).2 := by
  refine tt_enter (α := Int32 × tt_St) (mk := fun r => (some (.int r.1), r.2)) (T := (mo_readWave st a1)) (by decide +kernel) (Nat.le_of_ble_eq_true rfl) (fun κ hC hR => ?_)
  rw [mo_readWave]
  refine r_bipush (v := 9) hC d_mo_readWave_0 (by decide) ?_
  refine r_aload_n 0 hC d_mo_readWave_2 rfl ?_
  refine r_getI hC d_mo_readWave_3 fl_mo_115 rfl rfl ?_
  refine r_imul hC d_mo_readWave_6 ?_
  refine r_iconst (v := 3) hC d_mo_readWave_7 (by decide) ?_
  refine r_aload_n 0 hC d_mo_readWave_8 rfl ?_
  refine r_getR (r := 65) hC d_mo_readWave_9 fl_mo_56 rfl rfl rfl ?_
  refine r_aload_n 0 hC d_mo_readWave_12 rfl ?_
  refine r_getI hC d_mo_readWave_13 fl_mo_115 rfl rfl ?_
  refine r_iald (n := 4) hC d_mo_readWave_16 rfl (by decide) rfl rfl hn ?_
  refine r_imul hC d_mo_readWave_17 ?_
  refine r_iadd hC d_mo_readWave_18 ?_
  refine r_istore_n [(2, .int ((9 * (tt_I st 49 17)) + (3 * (tt_A st 65 (Int32.toNatClampNeg (tt_I st 49 17)))))), (0, .ref (tt_ad G 49)), (1, .int a1)] hC d_mo_readWave_19 rfl (by decide) rfl ?_
  refine r_iload_n 2 hC d_mo_readWave_20 rfl ?_
  refine r_istore_n [(3, .int a1), (2, .int ((9 * (tt_I st 49 17)) + (3 * (tt_A st 65 (Int32.toNatClampNeg (tt_I st 49 17)))))), (0, .ref (tt_ad G 49)), (1, .int a1)] hC d_mo_readWave_21 rfl (by decide) rfl ?_
  refine r_iconst (v := 0) hC d_mo_readWave_22 (by decide) ?_
  refine r_istore [(4, .int 0), (3, .int a1), (2, .int ((9 * (tt_I st 49 17)) + (3 * (tt_A st 65 (Int32.toNatClampNeg (tt_I st 49 17)))))), (0, .ref (tt_ad G 49)), (1, .int a1)] hC d_mo_readWave_23 (by decide) rfl ?_
  refine tt_cast [3, 2, 1, 0] rfl rfl (l_mo_readWave_25 hC a1 ((9 * (tt_I st 49 17)) + (3 * (tt_A st 65 (Int32.toNatClampNeg (tt_I st 49 17))))) hk (tt_w33 hn hw) 3 0 a1 st (by omega) hl (by omega) ?_)
  refine r_aload_n 0 hC d_mo_readWave_86 rfl ?_
  refine r_getR (r := 65) hC d_mo_readWave_87 fl_mo_56 rfl rfl rfl ?_
  refine r_aload_n 0 hC d_mo_readWave_90 rfl ?_
  refine r_getI hC d_mo_readWave_91 fl_mo_115 rfl rfl ?_
  refine r_dup2 hC d_mo_readWave_94 rfl rfl ?_
  refine r_iald (n := 4) hC d_mo_readWave_95 rfl (by decide) rfl rfl (by rw [mo_readWave_np]; exact hn) ?_
  refine r_iconst (v := 1) hC d_mo_readWave_96 (by decide) ?_
  refine r_iadd hC d_mo_readWave_97 ?_
  refine r_iast (n := 4) hC d_mo_readWave_98 rfl (by decide) rfl rfl (by rw [mo_readWave_np]; exact hn) ?_
  refine r_iload_n 1 hC d_mo_readWave_99 rfl ?_
  exact r_iret hC hR d_mo_readWave_100 rfl rfl

/-! TideTableModel.sortsOf(I)I -/
def mo_sortsOf_l15 (st : tt_St) (a1 : Int32) (x2 : Int32) (x3 : Int32) : Nat → Nat → Int32 → Int32
  | 0, j, x4 => x4
  | n + 1, j, x4 => (mo_sortsOf_l15 st a1 x2 x3 n (j + 1) (if x4 = 0 then 0 else (if (tt_A st 57 (Int32.toNatClampNeg (nI j))) = a1 then (if (mo_could x3 (tt_A st 58 (Int32.toNatClampNeg (nI j)))) = (if (tt_A st 59 (Int32.toNatClampNeg (nI j))) = 1 then 1 else 0 : Int32) then 1 else 0 : Int32) else 1 : Int32) : Int32))
set_option maxHeartbeats 4000000 in
set_option maxRecDepth 20000 in
theorem l_mo_sortsOf_15 {α : Type} {G : tt_G} {κ : tt_X α} {T : α} (hC : tt_Cx G κ prog_7_method_64_code "TideTableModel" 6 1 21) (st : tt_St) (a1 : Int32) (x2 : Int32) (x3 : Int32) (hI : mo_ok st) (hN : (Int32.toNatClampNeg (tt_I st 49 9)) ≤ 6) : ∀ (n j : Nat) (x4 : Int32), j + n = (Int32.toNatClampNeg (tt_I st 49 9)) → tt_V G κ T st 83 [(0, .ref (tt_ad G 49)), (1, .int a1), (2, .int x2), (3, .int x3), (4, .int (mo_sortsOf_l15 st a1 x2 x3 n j x4))] [] → tt_V G κ T st 15 [(0, .ref (tt_ad G 49)), (1, .int a1), (2, .int x2), (3, .int x3), (4, .int x4), (5, .int (nI j))] [] := by
  intro n
  induction n with
  | zero =>
    intro j x4 hj k
    refine r_iload 5 hC d_mo_sortsOf_15 rfl ?_
    refine r_aload_n 0 hC d_mo_sortsOf_17 rfl ?_
    refine r_getI hC d_mo_sortsOf_18 fl_mo_144 rfl rfl ?_
    refine t_icmp_ge (tgt := 83) hC d_mo_sortsOf_21 (by decide) (tt_end hI.2.1.1 (by omega) (by omega)) ?_
    exact tt_cast [0, 1, 2, 3, 4] rfl rfl k
  | succ n ih =>
    intro j x4 hj k
    refine r_iload 5 hC d_mo_sortsOf_15 rfl ?_
    refine r_aload_n 0 hC d_mo_sortsOf_17 rfl ?_
    refine r_getI hC d_mo_sortsOf_18 fl_mo_144 rfl rfl ?_
    refine f_icmp_ge (tgt := 83) hC d_mo_sortsOf_21 (by decide) (tt_stay (by omega)) ?_
    refine r_iload 4 hC d_mo_sortsOf_24 rfl ?_
    refine tt_join 75 [(0, .ref (tt_ad G 49)), (1, .int a1), (2, .int x2), (3, .int x3), (5, .int (nI j))] [.int (if x4 = 0 then 0 else (if (tt_A st 57 (Int32.toNatClampNeg (nI j))) = a1 then (if (mo_could x3 (tt_A st 58 (Int32.toNatClampNeg (nI j)))) = (if (tt_A st 59 (Int32.toNatClampNeg (nI j))) = 1 then 1 else 0 : Int32) then 1 else 0 : Int32) else 1 : Int32) : Int32)] ?_ (fun kj_26 => ?_)
    ·
      refine r_istore [(4, .int (if x4 = 0 then 0 else (if (tt_A st 57 (Int32.toNatClampNeg (nI j))) = a1 then (if (mo_could x3 (tt_A st 58 (Int32.toNatClampNeg (nI j)))) = (if (tt_A st 59 (Int32.toNatClampNeg (nI j))) = 1 then 1 else 0 : Int32) then 1 else 0 : Int32) else 1 : Int32) : Int32)), (0, .ref (tt_ad G 49)), (1, .int a1), (2, .int x2), (3, .int x3), (5, .int (nI j))] hC d_mo_sortsOf_75 (by decide) rfl ?_
      refine r_iinc 5 (nI (j + 1)) [(5, .int (nI (j + 1))), (4, .int (if x4 = 0 then 0 else (if (tt_A st 57 (Int32.toNatClampNeg (nI j))) = a1 then (if (mo_could x3 (tt_A st 58 (Int32.toNatClampNeg (nI j)))) = (if (tt_A st 59 (Int32.toNatClampNeg (nI j))) = 1 then 1 else 0 : Int32) then 1 else 0 : Int32) else 1 : Int32) : Int32)), (0, .ref (tt_ad G 49)), (1, .int a1), (2, .int x2), (3, .int x3)] hC d_mo_sortsOf_77 rfl (by rw [nI_succ]; rfl) (by decide) rfl ?_
      refine r_goto (tgt := 15) hC d_mo_sortsOf_80 (by decide) ?_
      exact tt_cast [2, 3, 4, 5, 1, 0] rfl rfl (ih (j + 1) (if x4 = 0 then 0 else (if (tt_A st 57 (Int32.toNatClampNeg (nI j))) = a1 then (if (mo_could x3 (tt_A st 58 (Int32.toNatClampNeg (nI j)))) = (if (tt_A st 59 (Int32.toNatClampNeg (nI j))) = 1 then 1 else 0 : Int32) then 1 else 0 : Int32) else 1 : Int32) : Int32) (by omega) (by simpa only [mo_sortsOf_l15] using k))
    ·
      refine j_if_eq (tgt := 74) hC d_mo_sortsOf_26 (by decide) (fun c_26 => ?_) (fun c_26 => ?_)
      ·
        refine r_iconst (v := 0) hC d_mo_sortsOf_74 (by decide) ?_
        exact tt_cast [0, 1, 2, 3, 5] rfl (by simp only [if_pos c_26]) kj_26
      ·
        refine r_aload_n 0 hC d_mo_sortsOf_29 rfl ?_
        refine r_getR (r := 57) hC d_mo_sortsOf_30 fl_mo_31 rfl rfl rfl ?_
        refine r_iload 5 hC d_mo_sortsOf_33 rfl ?_
        refine r_iald (n := 6) hC d_mo_sortsOf_35 rfl (by decide) rfl rfl (vp_in_nI (by omega) (by omega)) ?_
        refine r_iload_n 1 hC d_mo_sortsOf_36 rfl ?_
        refine tt_join 75 [(0, .ref (tt_ad G 49)), (1, .int a1), (2, .int x2), (3, .int x3), (5, .int (nI j))] [.int (if (tt_A st 57 (Int32.toNatClampNeg (nI j))) = a1 then (if (mo_could x3 (tt_A st 58 (Int32.toNatClampNeg (nI j)))) = (if (tt_A st 59 (Int32.toNatClampNeg (nI j))) = 1 then 1 else 0 : Int32) then 1 else 0 : Int32) else 1 : Int32)] ?_ (fun kj_37 => ?_)
        ·
          exact tt_cast [0, 1, 2, 3, 4] rfl (by simp only [if_neg c_26]) kj_26
        ·
          refine j_icmp_ne (tgt := 70) hC d_mo_sortsOf_37 (by decide) (fun c_37 => ?_) (fun c_37 => ?_)
          ·
            refine r_iconst (v := 1) hC d_mo_sortsOf_70 (by decide) ?_
            refine r_goto (tgt := 75) hC d_mo_sortsOf_71 (by decide) ?_
            exact tt_cast [0, 1, 2, 3, 5] rfl (by simp only [if_neg c_37]) kj_37
          ·
            refine r_iload_n 3 hC d_mo_sortsOf_40 rfl ?_
            refine r_aload_n 0 hC d_mo_sortsOf_41 rfl ?_
            refine r_getR (r := 58) hC d_mo_sortsOf_42 fl_mo_34 rfl rfl rfl ?_
            refine r_iload 5 hC d_mo_sortsOf_45 rfl ?_
            refine r_iald (n := 6) hC d_mo_sortsOf_47 rfl (by decide) rfl rfl (vp_in_nI (by omega) (by omega)) ?_
            refine r_callS (rest := []) (stk1 := [.int (mo_could x3 (tt_A st 58 (Int32.toNatClampNeg (nI j))))]) hC d_mo_sortsOf_48 (c_mo_could G st x3 (tt_A st 58 (Int32.toNatClampNeg (nI j)))) mw_mo_could ms_mo_could ml_mo_229 rfl rfl rfl (Nat.le_of_ble_eq_true rfl) rfl ?_
            refine r_aload_n 0 hC d_mo_sortsOf_51 rfl ?_
            refine r_getR (r := 59) hC d_mo_sortsOf_52 fl_mo_37 rfl rfl rfl ?_
            refine r_iload 5 hC d_mo_sortsOf_55 rfl ?_
            refine r_iald (n := 6) hC d_mo_sortsOf_57 rfl (by decide) rfl rfl (vp_in_nI (by omega) (by omega)) ?_
            refine r_iconst (v := 1) hC d_mo_sortsOf_58 (by decide) ?_
            refine tt_join 67 [(0, .ref (tt_ad G 49)), (1, .int a1), (2, .int x2), (3, .int x3), (5, .int (nI j))] [.int (if (tt_A st 59 (Int32.toNatClampNeg (nI j))) = 1 then 1 else 0 : Int32), .int (mo_could x3 (tt_A st 58 (Int32.toNatClampNeg (nI j))))] ?_ (fun kj_59 => ?_)
            ·
              refine tt_join 75 [(0, .ref (tt_ad G 49)), (1, .int a1), (2, .int x2), (3, .int x3), (5, .int (nI j))] [.int (if (mo_could x3 (tt_A st 58 (Int32.toNatClampNeg (nI j)))) = (if (tt_A st 59 (Int32.toNatClampNeg (nI j))) = 1 then 1 else 0 : Int32) then 1 else 0 : Int32)] ?_ (fun kj_67 => ?_)
              ·
                exact tt_cast [0, 1, 2, 3, 4] rfl (by simp only [if_pos c_37]) kj_37
              ·
                refine j_icmp_ne (tgt := 74) hC d_mo_sortsOf_67 (by decide) (fun c_67 => ?_) (fun c_67 => ?_)
                ·
                  refine r_iconst (v := 0) hC d_mo_sortsOf_74 (by decide) ?_
                  exact tt_cast [0, 1, 2, 3, 4] rfl (by simp only [if_neg c_67]) kj_67
                ·
                  refine r_iconst (v := 1) hC d_mo_sortsOf_70 (by decide) ?_
                  refine r_goto (tgt := 75) hC d_mo_sortsOf_71 (by decide) ?_
                  exact tt_cast [0, 1, 2, 3, 4] rfl (by simp only [if_pos c_67]) kj_67
            ·
              refine j_icmp_ne (tgt := 66) hC d_mo_sortsOf_59 (by decide) (fun c_59 => ?_) (fun c_59 => ?_)
              ·
                refine r_iconst (v := 0) hC d_mo_sortsOf_66 (by decide) ?_
                exact tt_cast [0, 1, 2, 3, 5] rfl (by simp only [if_neg c_59]) kj_59
              ·
                refine r_iconst (v := 1) hC d_mo_sortsOf_62 (by decide) ?_
                refine r_goto (tgt := 67) hC d_mo_sortsOf_63 (by decide) ?_
                exact tt_cast [0, 1, 2, 3, 5] rfl (by simp only [if_pos c_59]) kj_59
def mo_sortsOf_l4 (st : tt_St) (a1 : Int32) : Nat → Nat → Int32 → Int32
  | 0, j, x2 => x2
  | n + 1, j, x2 => (mo_sortsOf_l4 st a1 n (j + 1) (x2 ||| (if (mo_sortsOf_l15 st a1 x2 (nI j) (Int32.toNatClampNeg (tt_I st 49 9)) 0 1) = 0 then 0 else (1 <<< ((nI j) &&& 31)) : Int32)))
set_option maxHeartbeats 4000000 in
set_option maxRecDepth 20000 in
theorem l_mo_sortsOf_4 {α : Type} {G : tt_G} {κ : tt_X α} {T : α} (hC : tt_Cx G κ prog_7_method_64_code "TideTableModel" 6 1 21) (st : tt_St) (a1 : Int32) (hI : mo_ok st) : ∀ (n j : Nat) (x2 : Int32), j + n = 5 → tt_V G κ T st 104 [(2, .int (mo_sortsOf_l4 st a1 n j x2))] [] → tt_V G κ T st 4 [(0, .ref (tt_ad G 49)), (1, .int a1), (2, .int x2), (3, .int (nI j))] [] := by
  intro n
  induction n with
  | zero =>
    intro j x2 hj k
    refine r_iload_n 3 hC d_mo_sortsOf_4 rfl ?_
    refine r_iconst (v := 4) hC d_mo_sortsOf_5 (by decide) ?_
    refine t_icmp_gt (tgt := 104) hC d_mo_sortsOf_6 (by decide) (nI_lt (a := 4) (by omega) (by omega)) ?_
    exact tt_cast [2] rfl rfl k
  | succ n ih =>
    intro j x2 hj k
    refine r_iload_n 3 hC d_mo_sortsOf_4 rfl ?_
    refine r_iconst (v := 4) hC d_mo_sortsOf_5 (by decide) ?_
    refine f_icmp_gt (tgt := 104) hC d_mo_sortsOf_6 (by decide) (nI_nlt (a := 4) (b := j) (by omega) (by omega)) ?_
    refine r_iconst (v := 1) hC d_mo_sortsOf_9 (by decide) ?_
    refine r_istore [(4, .int 1), (0, .ref (tt_ad G 49)), (1, .int a1), (2, .int x2), (3, .int (nI j))] hC d_mo_sortsOf_10 (by decide) rfl ?_
    refine r_iconst (v := 0) hC d_mo_sortsOf_12 (by decide) ?_
    refine r_istore [(5, .int 0), (4, .int 1), (0, .ref (tt_ad G 49)), (1, .int a1), (2, .int x2), (3, .int (nI j))] hC d_mo_sortsOf_13 (by decide) rfl ?_
    refine tt_cast [2, 3, 4, 5, 1, 0] rfl rfl (l_mo_sortsOf_15 hC st a1 x2 (nI j) hI (tt_cle hI.2.1.2) (Int32.toNatClampNeg (tt_I st 49 9)) 0 1 (by omega)  ?_)
    refine r_iload_n 2 hC d_mo_sortsOf_83 rfl ?_
    refine r_iload 4 hC d_mo_sortsOf_84 rfl ?_
    refine tt_join 96 [(0, .ref (tt_ad G 49)), (1, .int a1), (3, .int (nI j))] [.int (if (mo_sortsOf_l15 st a1 x2 (nI j) (Int32.toNatClampNeg (tt_I st 49 9)) 0 1) = 0 then 0 else (1 <<< ((nI j) &&& 31)) : Int32), .int x2] ?_ (fun kj_86 => ?_)
    ·
      refine r_ior hC d_mo_sortsOf_96 ?_
      refine r_istore_n [(2, .int (x2 ||| (if (mo_sortsOf_l15 st a1 x2 (nI j) (Int32.toNatClampNeg (tt_I st 49 9)) 0 1) = 0 then 0 else (1 <<< ((nI j) &&& 31)) : Int32))), (0, .ref (tt_ad G 49)), (1, .int a1), (3, .int (nI j))] hC d_mo_sortsOf_97 rfl (by decide) rfl ?_
      refine r_iinc 3 (nI (j + 1)) [(3, .int (nI (j + 1))), (2, .int (x2 ||| (if (mo_sortsOf_l15 st a1 x2 (nI j) (Int32.toNatClampNeg (tt_I st 49 9)) 0 1) = 0 then 0 else (1 <<< ((nI j) &&& 31)) : Int32))), (0, .ref (tt_ad G 49)), (1, .int a1)] hC d_mo_sortsOf_98 rfl (by rw [nI_succ]; rfl) (by decide) rfl ?_
      refine r_goto (tgt := 4) hC d_mo_sortsOf_101 (by decide) ?_
      exact tt_cast [2, 3, 1, 0] rfl rfl (ih (j + 1) (x2 ||| (if (mo_sortsOf_l15 st a1 x2 (nI j) (Int32.toNatClampNeg (tt_I st 49 9)) 0 1) = 0 then 0 else (1 <<< ((nI j) &&& 31)) : Int32)) (by omega) (by simpa only [mo_sortsOf_l4] using k))
    ·
      refine j_if_eq (tgt := 95) hC d_mo_sortsOf_86 (by decide) (fun c_86 => ?_) (fun c_86 => ?_)
      ·
        refine r_iconst (v := 0) hC d_mo_sortsOf_95 (by decide) ?_
        exact tt_cast [0, 1, 3] rfl (by simp only [if_pos c_86]) kj_86
      ·
        refine r_iconst (v := 1) hC d_mo_sortsOf_89 (by decide) ?_
        refine r_iload_n 3 hC d_mo_sortsOf_90 rfl ?_
        refine r_ishl hC d_mo_sortsOf_91 ?_
        refine r_goto (tgt := 96) hC d_mo_sortsOf_92 (by decide) ?_
        exact tt_cast [0, 1, 3] rfl (by simp only [if_neg c_86]) kj_86
def mo_sortsOf (st : tt_St) (a1 : Int32) : Int32 := (mo_sortsOf_l4 st a1 5 0 0)
set_option maxHeartbeats 4000000 in
set_option maxRecDepth 20000 in
theorem c_mo_sortsOf (G : tt_G) (st : tt_St) (a1 : Int32) (hI : mo_ok st) : tt_C y_mo_sortsOf prog_7_method_64_code 6 (some .int) 1 21 G [.ref (tt_ad G 49), .int a1] st (some (.int (mo_sortsOf st a1))) st := by
  refine tt_enter (α := Int32) (mk := fun r => (some (.int r), st)) (T := (mo_sortsOf st a1)) (by decide +kernel) (Nat.le_of_ble_eq_true rfl) (fun κ hC hR => ?_)
  rw [mo_sortsOf]
  refine r_iconst (v := 0) hC d_mo_sortsOf_0 (by decide) ?_
  refine r_istore_n [(2, .int 0), (0, .ref (tt_ad G 49)), (1, .int a1)] hC d_mo_sortsOf_1 rfl (by decide) rfl ?_
  refine r_iconst (v := 0) hC d_mo_sortsOf_2 (by decide) ?_
  refine r_istore_n [(3, .int 0), (2, .int 0), (0, .ref (tt_ad G 49)), (1, .int a1)] hC d_mo_sortsOf_3 rfl (by decide) rfl ?_
  refine tt_cast [2, 3, 1, 0] rfl rfl (l_mo_sortsOf_4 hC st a1 hI 5 0 0 (by omega)  ?_)
  refine r_iload_n 0 hC d_mo_sortsOf_104 rfl ?_
  exact r_iret hC hR d_mo_sortsOf_105 rfl rfl
/-! TideTableModel.askOf(I)I -/
def mo_askOf_l33 (st : tt_St) (a1 : Int32) (x2 : Int32) (x3 : Int32) (x4 : Int32) (x5 : Int32) : Nat → Nat → Int32 → Int32
  | 0, j, x6 => x6
  | n + 1, j, x6 => (mo_askOf_l33 st a1 x2 x3 x4 x5 n (j + 1) (x6 + (if (mo_isIn x2 (nI j)) = 0 then 0 else (if (mo_could (nI j) x5) = 0 then 0 else 1 : Int32) : Int32)))
set_option maxHeartbeats 4000000 in
set_option maxRecDepth 20000 in
theorem l_mo_askOf_33 {α : Type} {G : tt_G} {κ : tt_X α} {T : α} (hC : tt_Cx G κ prog_7_method_65_code "TideTableModel" 9 2 46) (st : tt_St) (a1 : Int32) (x2 : Int32) (x3 : Int32) (x4 : Int32) (x5 : Int32) (hI : mo_ok st) : ∀ (n j : Nat) (x6 : Int32), j + n = 5 → tt_V G κ T st 74 [(2, .int x2), (3, .int x3), (4, .int x4), (5, .int x5), (6, .int (mo_askOf_l33 st a1 x2 x3 x4 x5 n j x6))] [] → tt_V G κ T st 33 [(2, .int x2), (3, .int x3), (4, .int x4), (5, .int x5), (6, .int x6), (7, .int (nI j))] [] := by
  intro n
  induction n with
  | zero =>
    intro j x6 hj k
    refine r_iload 5 hC d_mo_askOf_33 rfl ?_
    refine r_iconst (v := 4) hC d_mo_askOf_35 (by decide) ?_
    refine t_icmp_gt (tgt := 74) hC d_mo_askOf_36 (by decide) (nI_lt (a := 4) (by omega) (by omega)) ?_
    exact tt_cast [0, 1, 2, 3, 4] rfl rfl k
  | succ n ih =>
    intro j x6 hj k
    refine r_iload 5 hC d_mo_askOf_33 rfl ?_
    refine r_iconst (v := 4) hC d_mo_askOf_35 (by decide) ?_
    refine f_icmp_gt (tgt := 74) hC d_mo_askOf_36 (by decide) (nI_nlt (a := 4) (b := j) (by omega) (by omega)) ?_
    refine r_iload 4 hC d_mo_askOf_39 rfl ?_
    refine r_iload_n 0 hC d_mo_askOf_41 rfl ?_
    refine r_iload 5 hC d_mo_askOf_42 rfl ?_
    refine r_callS (rest := [.int x6]) (stk1 := [.int (mo_isIn x2 (nI j)), .int x6]) hC d_mo_askOf_44 (c_mo_isIn G st x2 (nI j)) mw_mo_isIn ms_mo_isIn ml_mo_233 rfl rfl rfl (Nat.le_of_ble_eq_true rfl) rfl ?_
    refine tt_join 65 [(2, .int x2), (3, .int x3), (4, .int x4), (5, .int x5), (7, .int (nI j))] [.int (if (mo_isIn x2 (nI j)) = 0 then 0 else (if (mo_could (nI j) x5) = 0 then 0 else 1 : Int32) : Int32), .int x6] ?_ (fun kj_47 => ?_)
    ·
      refine r_iadd hC d_mo_askOf_65 ?_
      refine r_istore [(6, .int (x6 + (if (mo_isIn x2 (nI j)) = 0 then 0 else (if (mo_could (nI j) x5) = 0 then 0 else 1 : Int32) : Int32))), (2, .int x2), (3, .int x3), (4, .int x4), (5, .int x5), (7, .int (nI j))] hC d_mo_askOf_66 (by decide) rfl ?_
      refine r_iinc 5 (nI (j + 1)) [(7, .int (nI (j + 1))), (6, .int (x6 + (if (mo_isIn x2 (nI j)) = 0 then 0 else (if (mo_could (nI j) x5) = 0 then 0 else 1 : Int32) : Int32))), (2, .int x2), (3, .int x3), (4, .int x4), (5, .int x5)] hC d_mo_askOf_68 rfl (by rw [nI_succ]; rfl) (by decide) rfl ?_
      refine r_goto (tgt := 33) hC d_mo_askOf_71 (by decide) ?_
      exact tt_cast [2, 3, 4, 5, 1, 0] rfl rfl (ih (j + 1) (x6 + (if (mo_isIn x2 (nI j)) = 0 then 0 else (if (mo_could (nI j) x5) = 0 then 0 else 1 : Int32) : Int32)) (by omega) (by simpa only [mo_askOf_l33] using k))
    ·
      refine j_if_eq (tgt := 64) hC d_mo_askOf_47 (by decide) (fun c_47 => ?_) (fun c_47 => ?_)
      ·
        refine r_iconst (v := 0) hC d_mo_askOf_64 (by decide) ?_
        exact tt_cast [0, 1, 2, 3, 5] rfl (by simp only [if_pos c_47]) kj_47
      ·
        refine r_iload 5 hC d_mo_askOf_50 rfl ?_
        refine r_iload 3 hC d_mo_askOf_52 rfl ?_
        refine r_callS (rest := [.int x6]) (stk1 := [.int (mo_could (nI j) x5), .int x6]) hC d_mo_askOf_54 (c_mo_could G st (nI j) x5) mw_mo_could ms_mo_could ml_mo_229 rfl rfl rfl (Nat.le_of_ble_eq_true rfl) rfl ?_
        refine tt_join 65 [(2, .int x2), (3, .int x3), (4, .int x4), (5, .int x5), (7, .int (nI j))] [.int (if (mo_could (nI j) x5) = 0 then 0 else 1 : Int32), .int x6] ?_ (fun kj_57 => ?_)
        ·
          exact tt_cast [0, 1, 2, 3, 4] rfl (by simp only [if_neg c_47]) kj_47
        ·
          refine j_if_eq (tgt := 64) hC d_mo_askOf_57 (by decide) (fun c_57 => ?_) (fun c_57 => ?_)
          ·
            refine r_iconst (v := 0) hC d_mo_askOf_64 (by decide) ?_
            exact tt_cast [0, 1, 2, 3, 5] rfl (by simp only [if_pos c_57]) kj_57
          ·
            refine r_iconst (v := 1) hC d_mo_askOf_60 (by decide) ?_
            refine r_goto (tgt := 65) hC d_mo_askOf_61 (by decide) ?_
            exact tt_cast [0, 1, 2, 3, 5] rfl (by simp only [if_neg c_57]) kj_57
def mo_askOf_l17 (st : tt_St) (a1 : Int32) (x2 : Int32) : Nat → Nat → Int32 → Int32 → Int32 × Int32
  | 0, j, x3, x4 => (x3, x4)
  | n + 1, j, x3, x4 => (if x2 = 0 then (x3, x4) else (mo_askOf_l17 st a1 x2 n (j + 1) (if x4 ≤ (if (mo_askOf_l33 st a1 x2 x3 x4 (nI j) 5 0 0) ≤ ((mo_size x2) - (mo_askOf_l33 st a1 x2 x3 x4 (nI j) 5 0 0)) then ((mo_size x2) - (mo_askOf_l33 st a1 x2 x3 x4 (nI j) 5 0 0)) else (mo_askOf_l33 st a1 x2 x3 x4 (nI j) 5 0 0) : Int32) then x3 else (nI j) : Int32) (if x4 ≤ (if (mo_askOf_l33 st a1 x2 x3 x4 (nI j) 5 0 0) ≤ ((mo_size x2) - (mo_askOf_l33 st a1 x2 x3 x4 (nI j) 5 0 0)) then ((mo_size x2) - (mo_askOf_l33 st a1 x2 x3 x4 (nI j) 5 0 0)) else (mo_askOf_l33 st a1 x2 x3 x4 (nI j) 5 0 0) : Int32) then x4 else (if (mo_askOf_l33 st a1 x2 x3 x4 (nI j) 5 0 0) ≤ ((mo_size x2) - (mo_askOf_l33 st a1 x2 x3 x4 (nI j) 5 0 0)) then ((mo_size x2) - (mo_askOf_l33 st a1 x2 x3 x4 (nI j) 5 0 0)) else (mo_askOf_l33 st a1 x2 x3 x4 (nI j) 5 0 0) : Int32) : Int32)))
set_option maxHeartbeats 4000000 in
set_option maxRecDepth 20000 in
theorem l_mo_askOf_17 {α : Type} {G : tt_G} {κ : tt_X α} {T : α} (hC : tt_Cx G κ prog_7_method_65_code "TideTableModel" 9 2 46) (st : tt_St) (a1 : Int32) (x2 : Int32) (hI : mo_ok st) : ∀ (n j : Nat) (x3 : Int32) (x4 : Int32), j + n = 4 → tt_V G κ T st 135 [(3, .int ((mo_askOf_l17 st a1 x2 n j x3 x4).1))] [] → tt_V G κ T st 17 [(2, .int x2), (3, .int x3), (4, .int x4), (5, .int (nI j))] [] := by
  intro n
  induction n with
  | zero =>
    intro j x3 x4 hj k
    refine r_iload 3 hC d_mo_askOf_17 rfl ?_
    refine r_iconst (v := 4) hC d_mo_askOf_19 (by decide) ?_
    refine t_icmp_ge (tgt := 135) hC d_mo_askOf_20 (by decide) (nI_le (a := 4) (by omega) (by omega)) ?_
    exact tt_cast [1] rfl rfl k
  | succ n ih =>
    intro j x3 x4 hj k
    refine r_iload 3 hC d_mo_askOf_17 rfl ?_
    refine r_iconst (v := 4) hC d_mo_askOf_19 (by decide) ?_
    refine f_icmp_ge (tgt := 135) hC d_mo_askOf_20 (by decide) (nI_ge (a := j) (b := 4) (by omega) (by omega)) ?_
    refine r_iload_n 0 hC d_mo_askOf_23 rfl ?_
    refine j_if_eq (tgt := 135) hC d_mo_askOf_24 (by decide) (fun c_24 => ?_) (fun c_24 => ?_)
    ·
      exact tt_cast (lv' := [(3, .int x3)]) [1] rfl rfl (by simpa only [mo_askOf_l17, if_pos c_24] using k)
    ·
      refine r_iconst (v := 0) hC d_mo_askOf_27 (by decide) ?_
      refine r_istore [(6, .int 0), (2, .int x2), (3, .int x3), (4, .int x4), (5, .int (nI j))] hC d_mo_askOf_28 (by decide) rfl ?_
      refine r_iconst (v := 0) hC d_mo_askOf_30 (by decide) ?_
      refine r_istore [(7, .int 0), (6, .int 0), (2, .int x2), (3, .int x3), (4, .int x4), (5, .int (nI j))] hC d_mo_askOf_31 (by decide) rfl ?_
      refine tt_cast [2, 3, 4, 5, 1, 0] rfl rfl (l_mo_askOf_33 hC st a1 x2 x3 x4 (nI j) hI 5 0 0 (by omega)  ?_)
      refine r_iload_n 0 hC d_mo_askOf_74 rfl ?_
      refine r_callS (rest := []) (stk1 := [.int (mo_size x2)]) hC d_mo_askOf_75 (c_mo_size G st x2) mw_mo_size ms_mo_size ml_mo_236 rfl rfl rfl (Nat.le_of_ble_eq_true rfl) rfl ?_
      refine r_iload 4 hC d_mo_askOf_78 rfl ?_
      refine r_isub hC d_mo_askOf_80 ?_
      refine r_istore [(7, .int ((mo_size x2) - (mo_askOf_l33 st a1 x2 x3 x4 (nI j) 5 0 0))), (2, .int x2), (3, .int x3), (4, .int x4), (5, .int (nI j)), (6, .int (mo_askOf_l33 st a1 x2 x3 x4 (nI j) 5 0 0))] hC d_mo_askOf_81 (by decide) rfl ?_
      refine r_iload 5 hC d_mo_askOf_83 rfl ?_
      refine r_iload 0 hC d_mo_askOf_85 rfl ?_
      refine tt_join 97 [(2, .int x2), (3, .int x3), (4, .int x4), (5, .int (nI j))] [.int (if (mo_askOf_l33 st a1 x2 x3 x4 (nI j) 5 0 0) ≤ ((mo_size x2) - (mo_askOf_l33 st a1 x2 x3 x4 (nI j) 5 0 0)) then ((mo_size x2) - (mo_askOf_l33 st a1 x2 x3 x4 (nI j) 5 0 0)) else (mo_askOf_l33 st a1 x2 x3 x4 (nI j) 5 0 0) : Int32)] ?_ (fun kj_87 => ?_)
      ·
        refine r_istore [(8, .int (if (mo_askOf_l33 st a1 x2 x3 x4 (nI j) 5 0 0) ≤ ((mo_size x2) - (mo_askOf_l33 st a1 x2 x3 x4 (nI j) 5 0 0)) then ((mo_size x2) - (mo_askOf_l33 st a1 x2 x3 x4 (nI j) 5 0 0)) else (mo_askOf_l33 st a1 x2 x3 x4 (nI j) 5 0 0) : Int32)), (2, .int x2), (3, .int x3), (4, .int x4), (5, .int (nI j))] hC d_mo_askOf_97 (by decide) rfl ?_
        refine r_iload 0 hC d_mo_askOf_99 rfl ?_
        refine r_iload 3 hC d_mo_askOf_101 rfl ?_
        refine tt_join 112 [(2, .int x2), (4, .int x4), (5, .int (nI j)), (8, .int (if (mo_askOf_l33 st a1 x2 x3 x4 (nI j) 5 0 0) ≤ ((mo_size x2) - (mo_askOf_l33 st a1 x2 x3 x4 (nI j) 5 0 0)) then ((mo_size x2) - (mo_askOf_l33 st a1 x2 x3 x4 (nI j) 5 0 0)) else (mo_askOf_l33 st a1 x2 x3 x4 (nI j) 5 0 0) : Int32))] [.int (if x4 ≤ (if (mo_askOf_l33 st a1 x2 x3 x4 (nI j) 5 0 0) ≤ ((mo_size x2) - (mo_askOf_l33 st a1 x2 x3 x4 (nI j) 5 0 0)) then ((mo_size x2) - (mo_askOf_l33 st a1 x2 x3 x4 (nI j) 5 0 0)) else (mo_askOf_l33 st a1 x2 x3 x4 (nI j) 5 0 0) : Int32) then x3 else (nI j) : Int32)] ?_ (fun kj_103 => ?_)
        ·
          refine r_istore_n [(3, .int (if x4 ≤ (if (mo_askOf_l33 st a1 x2 x3 x4 (nI j) 5 0 0) ≤ ((mo_size x2) - (mo_askOf_l33 st a1 x2 x3 x4 (nI j) 5 0 0)) then ((mo_size x2) - (mo_askOf_l33 st a1 x2 x3 x4 (nI j) 5 0 0)) else (mo_askOf_l33 st a1 x2 x3 x4 (nI j) 5 0 0) : Int32) then x3 else (nI j) : Int32)), (2, .int x2), (4, .int x4), (5, .int (nI j)), (8, .int (if (mo_askOf_l33 st a1 x2 x3 x4 (nI j) 5 0 0) ≤ ((mo_size x2) - (mo_askOf_l33 st a1 x2 x3 x4 (nI j) 5 0 0)) then ((mo_size x2) - (mo_askOf_l33 st a1 x2 x3 x4 (nI j) 5 0 0)) else (mo_askOf_l33 st a1 x2 x3 x4 (nI j) 5 0 0) : Int32))] hC d_mo_askOf_112 rfl (by decide) rfl ?_
          refine r_iload 4 hC d_mo_askOf_113 rfl ?_
          refine r_iload 2 hC d_mo_askOf_115 rfl ?_
          refine tt_join 127 [(2, .int x2), (3, .int (if x4 ≤ (if (mo_askOf_l33 st a1 x2 x3 x4 (nI j) 5 0 0) ≤ ((mo_size x2) - (mo_askOf_l33 st a1 x2 x3 x4 (nI j) 5 0 0)) then ((mo_size x2) - (mo_askOf_l33 st a1 x2 x3 x4 (nI j) 5 0 0)) else (mo_askOf_l33 st a1 x2 x3 x4 (nI j) 5 0 0) : Int32) then x3 else (nI j) : Int32)), (5, .int (nI j))] [.int (if x4 ≤ (if (mo_askOf_l33 st a1 x2 x3 x4 (nI j) 5 0 0) ≤ ((mo_size x2) - (mo_askOf_l33 st a1 x2 x3 x4 (nI j) 5 0 0)) then ((mo_size x2) - (mo_askOf_l33 st a1 x2 x3 x4 (nI j) 5 0 0)) else (mo_askOf_l33 st a1 x2 x3 x4 (nI j) 5 0 0) : Int32) then x4 else (if (mo_askOf_l33 st a1 x2 x3 x4 (nI j) 5 0 0) ≤ ((mo_size x2) - (mo_askOf_l33 st a1 x2 x3 x4 (nI j) 5 0 0)) then ((mo_size x2) - (mo_askOf_l33 st a1 x2 x3 x4 (nI j) 5 0 0)) else (mo_askOf_l33 st a1 x2 x3 x4 (nI j) 5 0 0) : Int32) : Int32)] ?_ (fun kj_117 => ?_)
          ·
            refine r_istore [(4, .int (if x4 ≤ (if (mo_askOf_l33 st a1 x2 x3 x4 (nI j) 5 0 0) ≤ ((mo_size x2) - (mo_askOf_l33 st a1 x2 x3 x4 (nI j) 5 0 0)) then ((mo_size x2) - (mo_askOf_l33 st a1 x2 x3 x4 (nI j) 5 0 0)) else (mo_askOf_l33 st a1 x2 x3 x4 (nI j) 5 0 0) : Int32) then x4 else (if (mo_askOf_l33 st a1 x2 x3 x4 (nI j) 5 0 0) ≤ ((mo_size x2) - (mo_askOf_l33 st a1 x2 x3 x4 (nI j) 5 0 0)) then ((mo_size x2) - (mo_askOf_l33 st a1 x2 x3 x4 (nI j) 5 0 0)) else (mo_askOf_l33 st a1 x2 x3 x4 (nI j) 5 0 0) : Int32) : Int32)), (2, .int x2), (3, .int (if x4 ≤ (if (mo_askOf_l33 st a1 x2 x3 x4 (nI j) 5 0 0) ≤ ((mo_size x2) - (mo_askOf_l33 st a1 x2 x3 x4 (nI j) 5 0 0)) then ((mo_size x2) - (mo_askOf_l33 st a1 x2 x3 x4 (nI j) 5 0 0)) else (mo_askOf_l33 st a1 x2 x3 x4 (nI j) 5 0 0) : Int32) then x3 else (nI j) : Int32)), (5, .int (nI j))] hC d_mo_askOf_127 (by decide) rfl ?_
            refine r_iinc 3 (nI (j + 1)) [(5, .int (nI (j + 1))), (4, .int (if x4 ≤ (if (mo_askOf_l33 st a1 x2 x3 x4 (nI j) 5 0 0) ≤ ((mo_size x2) - (mo_askOf_l33 st a1 x2 x3 x4 (nI j) 5 0 0)) then ((mo_size x2) - (mo_askOf_l33 st a1 x2 x3 x4 (nI j) 5 0 0)) else (mo_askOf_l33 st a1 x2 x3 x4 (nI j) 5 0 0) : Int32) then x4 else (if (mo_askOf_l33 st a1 x2 x3 x4 (nI j) 5 0 0) ≤ ((mo_size x2) - (mo_askOf_l33 st a1 x2 x3 x4 (nI j) 5 0 0)) then ((mo_size x2) - (mo_askOf_l33 st a1 x2 x3 x4 (nI j) 5 0 0)) else (mo_askOf_l33 st a1 x2 x3 x4 (nI j) 5 0 0) : Int32) : Int32)), (2, .int x2), (3, .int (if x4 ≤ (if (mo_askOf_l33 st a1 x2 x3 x4 (nI j) 5 0 0) ≤ ((mo_size x2) - (mo_askOf_l33 st a1 x2 x3 x4 (nI j) 5 0 0)) then ((mo_size x2) - (mo_askOf_l33 st a1 x2 x3 x4 (nI j) 5 0 0)) else (mo_askOf_l33 st a1 x2 x3 x4 (nI j) 5 0 0) : Int32) then x3 else (nI j) : Int32))] hC d_mo_askOf_129 rfl (by rw [nI_succ]; rfl) (by decide) rfl ?_
            refine r_goto (tgt := 17) hC d_mo_askOf_132 (by decide) ?_
            exact tt_cast [2, 3, 1, 0] rfl rfl (ih (j + 1) (if x4 ≤ (if (mo_askOf_l33 st a1 x2 x3 x4 (nI j) 5 0 0) ≤ ((mo_size x2) - (mo_askOf_l33 st a1 x2 x3 x4 (nI j) 5 0 0)) then ((mo_size x2) - (mo_askOf_l33 st a1 x2 x3 x4 (nI j) 5 0 0)) else (mo_askOf_l33 st a1 x2 x3 x4 (nI j) 5 0 0) : Int32) then x3 else (nI j) : Int32) (if x4 ≤ (if (mo_askOf_l33 st a1 x2 x3 x4 (nI j) 5 0 0) ≤ ((mo_size x2) - (mo_askOf_l33 st a1 x2 x3 x4 (nI j) 5 0 0)) then ((mo_size x2) - (mo_askOf_l33 st a1 x2 x3 x4 (nI j) 5 0 0)) else (mo_askOf_l33 st a1 x2 x3 x4 (nI j) 5 0 0) : Int32) then x4 else (if (mo_askOf_l33 st a1 x2 x3 x4 (nI j) 5 0 0) ≤ ((mo_size x2) - (mo_askOf_l33 st a1 x2 x3 x4 (nI j) 5 0 0)) then ((mo_size x2) - (mo_askOf_l33 st a1 x2 x3 x4 (nI j) 5 0 0)) else (mo_askOf_l33 st a1 x2 x3 x4 (nI j) 5 0 0) : Int32) : Int32) (by omega) (by simpa only [mo_askOf_l17, if_neg c_24] using k))
          ·
            refine j_icmp_ge (tgt := 125) hC d_mo_askOf_117 (by decide) (fun c_117 => ?_) (fun c_117 => ?_)
            ·
              refine r_iload 2 hC d_mo_askOf_125 rfl ?_
              exact tt_cast [1, 0, 3] rfl (by simp only [if_pos c_117]) kj_117
            ·
              refine r_iload 4 hC d_mo_askOf_120 rfl ?_
              refine r_goto (tgt := 127) hC d_mo_askOf_122 (by decide) ?_
              exact tt_cast [1, 0, 3] rfl (by simp only [if_neg c_117]) kj_117
        ·
          refine j_icmp_ge (tgt := 111) hC d_mo_askOf_103 (by decide) (fun c_103 => ?_) (fun c_103 => ?_)
          ·
            refine r_iload_n 2 hC d_mo_askOf_111 rfl ?_
            exact tt_cast [1, 3, 4, 0] rfl (by simp only [if_pos c_103]) kj_103
          ·
            refine r_iload 4 hC d_mo_askOf_106 rfl ?_
            refine r_goto (tgt := 112) hC d_mo_askOf_108 (by decide) ?_
            exact tt_cast [1, 3, 4, 0] rfl (by simp only [if_neg c_103]) kj_103
      ·
        refine j_icmp_le (tgt := 95) hC d_mo_askOf_87 (by decide) (fun c_87 => ?_) (fun c_87 => ?_)
        ·
          refine r_iload 0 hC d_mo_askOf_95 rfl ?_
          exact tt_cast [1, 2, 3, 4] rfl (by simp only [if_pos c_87]) kj_87
        ·
          refine r_iload 5 hC d_mo_askOf_90 rfl ?_
          refine r_goto (tgt := 97) hC d_mo_askOf_92 (by decide) ?_
          exact tt_cast [1, 2, 3, 4] rfl (by simp only [if_neg c_87]) kj_87
def mo_askOf (st : tt_St) (a1 : Int32) : Int32 := ((mo_askOf_l17 st a1 (mo_sortsOf st a1) 4 0 (-10001) 268435456).1)
set_option maxHeartbeats 4000000 in
set_option maxRecDepth 20000 in
theorem c_mo_askOf (G : tt_G) (st : tt_St) (a1 : Int32) (hI : mo_ok st) : tt_C y_mo_askOf prog_7_method_65_code 9 (some .int) 2 46 G [.ref (tt_ad G 49), .int a1] st (some (.int (mo_askOf st a1))) st := by
  refine tt_enter (α := Int32) (mk := fun r => (some (.int r), st)) (T := (mo_askOf st a1)) (by decide +kernel) (Nat.le_of_ble_eq_true rfl) (fun κ hC hR => ?_)
  rw [mo_askOf]
  refine r_aload_n 0 hC d_mo_askOf_0 rfl ?_
  refine r_iload_n 1 hC d_mo_askOf_1 rfl ?_
  refine r_callV (o := 49) (rest := []) (stk1 := [.int (mo_sortsOf st a1)]) hC d_mo_askOf_2 (c_mo_sortsOf G st a1 hI) mw_mo_sortsOf mi_mo_sortsOf mz_mo_sortsOf ml_mo_150 rfl rfl rfl rfl rfl (Nat.le_of_ble_eq_true rfl) rfl ?_
  refine r_istore_n [(2, .int (mo_sortsOf st a1)), (0, .ref (tt_ad G 49)), (1, .int a1)] hC d_mo_askOf_5 rfl (by decide) rfl ?_
  refine r_sipush (v := (-10001)) hC d_mo_askOf_6 (by decide) ?_
  refine r_istore_n [(3, .int (-10001)), (2, .int (mo_sortsOf st a1)), (0, .ref (tt_ad G 49)), (1, .int a1)] hC d_mo_askOf_9 rfl (by decide) rfl ?_
  refine r_ldc hC d_mo_askOf_10 k_mo_232 ?_
  refine r_istore [(4, .int 268435456), (3, .int (-10001)), (2, .int (mo_sortsOf st a1)), (0, .ref (tt_ad G 49)), (1, .int a1)] hC d_mo_askOf_12 (by decide) rfl ?_
  refine r_iconst (v := 0) hC d_mo_askOf_14 (by decide) ?_
  refine r_istore [(5, .int 0), (4, .int 268435456), (3, .int (-10001)), (2, .int (mo_sortsOf st a1)), (0, .ref (tt_ad G 49)), (1, .int a1)] hC d_mo_askOf_15 (by decide) rfl ?_
  refine tt_cast [3, 2, 1, 0] rfl rfl (l_mo_askOf_17 hC st a1 (mo_sortsOf st a1) hI 4 0 (-10001) 268435456 (by omega)  ?_)
  refine r_iload_n 0 hC d_mo_askOf_135 rfl ?_
  exact r_iret hC hR d_mo_askOf_136 rfl rfl
/-! TideTableModel.portNow(II)I -/
def mo_portNow (st : tt_St) (a1 : Int32) (a2 : Int32) : Int32 := (if a2 = 0 then (tt_A st 50 (Int32.toNatClampNeg a1)) else (if a2 = 1 then (tt_A st 51 (Int32.toNatClampNeg a1)) else (if a2 = 2 then (tt_A st 52 (Int32.toNatClampNeg a1)) else (if a2 = 3 then (tt_A st 53 (Int32.toNatClampNeg a1)) else (if a2 = 4 then (tt_A st 54 (Int32.toNatClampNeg a1)) else (if a2 = 5 then (mo_sortsOf st a1) else (mo_askOf st a1)))))))
set_option maxHeartbeats 4000000 in
set_option maxRecDepth 20000 in
theorem c_mo_portNow (G : tt_G) (st : tt_St) (a1 : Int32) (a2 : Int32) (hI : mo_ok st) (hp : vp_in a1 4) : tt_C y_mo_portNow prog_7_method_22_code 3 (some .int) 3 74 G [.ref (tt_ad G 49), .int a1, .int a2] st (some (.int (mo_portNow st a1 a2))) st := by
  refine tt_enter (α := Int32) (mk := fun r => (some (.int r), st)) (T := (mo_portNow st a1 a2)) (by decide +kernel) (Nat.le_of_ble_eq_true rfl) (fun κ hC hR => ?_)
  rw [mo_portNow]
  refine r_iload_n 2 hC d_mo_portNow_0 rfl ?_
  refine tt_ite (c := a2 = 0) (fun c_1_0 => ?_) (fun c_1_0 => ?_)
  ·
    refine r_tabIn (tgt := 40) (off := 39) hC d_mo_portNow_1 (by rw [c_1_0]; decide) (by rw [c_1_0]; decide) (by rw [c_1_0]; decide) (by decide) ?_
    refine r_aload_n 0 hC d_mo_portNow_40 rfl ?_
    refine r_getR (r := 50) hC d_mo_portNow_41 fl_mo_7 rfl rfl rfl ?_
    refine r_iload_n 1 hC d_mo_portNow_44 rfl ?_
    refine r_iald (n := 4) hC d_mo_portNow_45 rfl (by decide) rfl rfl hp ?_
    exact r_iret hC hR d_mo_portNow_46 rfl rfl
  ·
    refine tt_ite (c := a2 = 1) (fun c_1_1 => ?_) (fun c_1_1 => ?_)
    ·
      refine r_tabIn (tgt := 47) (off := 46) hC d_mo_portNow_1 (by rw [c_1_1]; decide) (by rw [c_1_1]; decide) (by rw [c_1_1]; decide) (by decide) ?_
      refine r_aload_n 0 hC d_mo_portNow_47 rfl ?_
      refine r_getR (r := 51) hC d_mo_portNow_48 fl_mo_13 rfl rfl rfl ?_
      refine r_iload_n 1 hC d_mo_portNow_51 rfl ?_
      refine r_iald (n := 4) hC d_mo_portNow_52 rfl (by decide) rfl rfl hp ?_
      exact r_iret hC hR d_mo_portNow_53 rfl rfl
    ·
      refine tt_ite (c := a2 = 2) (fun c_1_2 => ?_) (fun c_1_2 => ?_)
      ·
        refine r_tabIn (tgt := 54) (off := 53) hC d_mo_portNow_1 (by rw [c_1_2]; decide) (by rw [c_1_2]; decide) (by rw [c_1_2]; decide) (by decide) ?_
        refine r_aload_n 0 hC d_mo_portNow_54 rfl ?_
        refine r_getR (r := 52) hC d_mo_portNow_55 fl_mo_16 rfl rfl rfl ?_
        refine r_iload_n 1 hC d_mo_portNow_58 rfl ?_
        refine r_iald (n := 4) hC d_mo_portNow_59 rfl (by decide) rfl rfl hp ?_
        exact r_iret hC hR d_mo_portNow_60 rfl rfl
      ·
        refine tt_ite (c := a2 = 3) (fun c_1_3 => ?_) (fun c_1_3 => ?_)
        ·
          refine r_tabIn (tgt := 61) (off := 60) hC d_mo_portNow_1 (by rw [c_1_3]; decide) (by rw [c_1_3]; decide) (by rw [c_1_3]; decide) (by decide) ?_
          refine r_aload_n 0 hC d_mo_portNow_61 rfl ?_
          refine r_getR (r := 53) hC d_mo_portNow_62 fl_mo_19 rfl rfl rfl ?_
          refine r_iload_n 1 hC d_mo_portNow_65 rfl ?_
          refine r_iald (n := 4) hC d_mo_portNow_66 rfl (by decide) rfl rfl hp ?_
          exact r_iret hC hR d_mo_portNow_67 rfl rfl
        ·
          refine tt_ite (c := a2 = 4) (fun c_1_4 => ?_) (fun c_1_4 => ?_)
          ·
            refine r_tabIn (tgt := 68) (off := 67) hC d_mo_portNow_1 (by rw [c_1_4]; decide) (by rw [c_1_4]; decide) (by rw [c_1_4]; decide) (by decide) ?_
            refine r_aload_n 0 hC d_mo_portNow_68 rfl ?_
            refine r_getR (r := 54) hC d_mo_portNow_69 fl_mo_22 rfl rfl rfl ?_
            refine r_iload_n 1 hC d_mo_portNow_72 rfl ?_
            refine r_iald (n := 4) hC d_mo_portNow_73 rfl (by decide) rfl rfl hp ?_
            exact r_iret hC hR d_mo_portNow_74 rfl rfl
          ·
            refine tt_ite (c := a2 = 5) (fun c_1_5 => ?_) (fun c_1_5 => ?_)
            ·
              refine r_tabIn (tgt := 75) (off := 74) hC d_mo_portNow_1 (by rw [c_1_5]; decide) (by rw [c_1_5]; decide) (by rw [c_1_5]; decide) (by decide) ?_
              refine r_aload_n 0 hC d_mo_portNow_75 rfl ?_
              refine r_iload_n 1 hC d_mo_portNow_76 rfl ?_
              refine r_callV (o := 49) (rest := []) (stk1 := [.int (mo_sortsOf st a1)]) hC d_mo_portNow_77 (c_mo_sortsOf G st a1 hI) mw_mo_sortsOf mi_mo_sortsOf mz_mo_sortsOf ml_mo_150 rfl rfl rfl rfl rfl (Nat.le_of_ble_eq_true rfl) rfl ?_
              exact r_iret hC hR d_mo_portNow_80 rfl rfl
            ·
              have nc_1_0 := lv_neT (a := 0) c_1_0 (by decide)
              have nc_1_1 := lv_neT (a := 1) c_1_1 (by decide)
              have nc_1_2 := lv_neT (a := 2) c_1_2 (by decide)
              have nc_1_3 := lv_neT (a := 3) c_1_3 (by decide)
              have nc_1_4 := lv_neT (a := 4) c_1_4 (by decide)
              have nc_1_5 := lv_neT (a := 5) c_1_5 (by decide)
              refine r_tabOut (tgt := 81) hC d_mo_portNow_1 (by omega) (by decide) ?_
              refine r_aload_n 0 hC d_mo_portNow_81 rfl ?_
              refine r_iload_n 1 hC d_mo_portNow_82 rfl ?_
              refine r_callV (o := 49) (rest := []) (stk1 := [.int (mo_askOf st a1)]) hC d_mo_portNow_83 (c_mo_askOf G st a1 hI) mw_mo_askOf mi_mo_askOf mz_mo_askOf ml_mo_153 rfl rfl rfl rfl rfl (Nat.le_of_ble_eq_true rfl) rfl ?_
              exact r_iret hC hR d_mo_portNow_86 rfl rfl
/-! TideTableModel.port(II)I -/
def mo_port (st : tt_St) (a1 : Int32) (a2 : Int32) : Int32 := (if (mo_isPort st a1) = 0 then (-10101) else (if (mo_within a2 0 6) = 0 then (-10102) else (mo_portNow st a1 a2)))
set_option maxHeartbeats 4000000 in
set_option maxRecDepth 20000 in
theorem c_mo_port (G : tt_G) (st : tt_St) (a1 : Int32) (a2 : Int32) (hI : mo_ok st) : tt_C y_mo_port prog_7_method_23_code 3 (some .int) 4 96 G [.ref (tt_ad G 49), .int a1, .int a2] st (some (.int (mo_port st a1 a2))) st := by
  refine tt_enter (α := Int32) (mk := fun r => (some (.int r), st)) (T := (mo_port st a1 a2)) (by decide +kernel) (Nat.le_of_ble_eq_true rfl) (fun κ hC hR => ?_)
  rw [mo_port]
  refine r_aload_n 0 hC d_mo_port_0 rfl ?_
  refine r_iload_n 1 hC d_mo_port_1 rfl ?_
  refine r_callV (o := 49) (rest := []) (stk1 := [.int (mo_isPort st a1)]) hC d_mo_port_2 (c_mo_isPort G st a1) mw_mo_isPort mi_mo_isPort mz_mo_isPort ml_mo_147 rfl rfl rfl rfl rfl (Nat.le_of_ble_eq_true rfl) rfl ?_
  refine r_if_ne (tgt := 14) hC d_mo_port_5 (by decide) (fun c_5 => ?_) (fun c_5 => ?_)
  ·
    refine r_iload_n 2 hC d_mo_port_14 rfl ?_
    refine r_iconst (v := 0) hC d_mo_port_15 (by decide) ?_
    refine r_bipush (v := 6) hC d_mo_port_16 (by decide) ?_
    refine r_callS (rest := []) (stk1 := [.int (mo_within a2 0 6)]) hC d_mo_port_18 (c_mo_within G st a2 0 6) mw_mo_within ms_mo_within ml_mo_93 rfl rfl rfl (Nat.le_of_ble_eq_true rfl) rfl ?_
    refine r_if_eq (tgt := 33) hC d_mo_port_21 (by decide) (fun c_21 => ?_) (fun c_21 => ?_)
    ·
      refine r_sipush (v := (-10102)) hC d_mo_port_33 (by decide) ?_
      exact r_iret hC hR d_mo_port_36 rfl rfl
    ·
      refine r_aload_n 0 hC d_mo_port_24 rfl ?_
      refine r_iload_n 1 hC d_mo_port_25 rfl ?_
      refine r_iload_n 2 hC d_mo_port_26 rfl ?_
      refine r_callV (o := 49) (rest := []) (stk1 := [.int (mo_portNow st a1 a2)]) hC d_mo_port_27 (c_mo_portNow G st a1 a2 hI (mo_isPort_in hI c_5)) mw_mo_portNow mi_mo_portNow mz_mo_portNow ml_mo_156 rfl rfl rfl rfl rfl (Nat.le_of_ble_eq_true rfl) rfl ?_
      refine r_goto (tgt := 36) hC d_mo_port_30 (by decide) ?_
      exact r_iret hC hR d_mo_port_36 rfl rfl
  ·
    refine r_sipush (v := (-10101)) hC d_mo_port_8 (by decide) ?_
    refine r_goto (tgt := 36) hC d_mo_port_11 (by decide) ?_
    exact r_iret hC hR d_mo_port_36 rfl rfl
/-! TideTableModel.wave(III)I -/
def mo_wave (st : tt_St) (a1 : Int32) (a2 : Int32) (a3 : Int32) : Int32 := (if (mo_isWave st a1 a2) = 0 then (-10101) else (if (mo_within a3 0 2) = 0 then (-10102) else (mo_waveNow st a1 a2 a3)))
set_option maxHeartbeats 4000000 in
set_option maxRecDepth 20000 in
theorem c_mo_wave (G : tt_G) (st : tt_St) (a1 : Int32) (a2 : Int32) (a3 : Int32) (hI : mo_ok st) : tt_C y_mo_wave prog_7_method_25_code 4 (some .int) 3 65 G [.ref (tt_ad G 49), .int a1, .int a2, .int a3] st (some (.int (mo_wave st a1 a2 a3))) st := by
  refine tt_enter (α := Int32) (mk := fun r => (some (.int r), st)) (T := (mo_wave st a1 a2 a3)) (by decide +kernel) (Nat.le_of_ble_eq_true rfl) (fun κ hC hR => ?_)
  rw [mo_wave]
  refine r_aload_n 0 hC d_mo_wave_0 rfl ?_
  refine r_iload_n 1 hC d_mo_wave_1 rfl ?_
  refine r_iload_n 2 hC d_mo_wave_2 rfl ?_
  refine r_callV (o := 49) (rest := []) (stk1 := [.int (mo_isWave st a1 a2)]) hC d_mo_wave_3 (c_mo_isWave G st a1 a2 hI) mw_mo_isWave mi_mo_isWave mz_mo_isWave ml_mo_160 rfl rfl rfl rfl rfl (Nat.le_of_ble_eq_true rfl) rfl ?_
  refine r_if_ne (tgt := 15) hC d_mo_wave_6 (by decide) (fun c_6 => ?_) (fun c_6 => ?_)
  ·
    refine r_iload_n 3 hC d_mo_wave_15 rfl ?_
    refine r_iconst (v := 0) hC d_mo_wave_16 (by decide) ?_
    refine r_iconst (v := 2) hC d_mo_wave_17 (by decide) ?_
    refine r_callS (rest := []) (stk1 := [.int (mo_within a3 0 2)]) hC d_mo_wave_18 (c_mo_within G st a3 0 2) mw_mo_within ms_mo_within ml_mo_93 rfl rfl rfl (Nat.le_of_ble_eq_true rfl) rfl ?_
    refine r_if_eq (tgt := 34) hC d_mo_wave_21 (by decide) (fun c_21 => ?_) (fun c_21 => ?_)
    ·
      refine r_sipush (v := (-10102)) hC d_mo_wave_34 (by decide) ?_
      exact r_iret hC hR d_mo_wave_37 rfl rfl
    ·
      refine r_aload_n 0 hC d_mo_wave_24 rfl ?_
      refine r_iload_n 1 hC d_mo_wave_25 rfl ?_
      refine r_iload_n 2 hC d_mo_wave_26 rfl ?_
      refine r_iload_n 3 hC d_mo_wave_27 rfl ?_
      refine r_callV (o := 49) (rest := []) (stk1 := [.int (mo_waveNow st a1 a2 a3)]) hC d_mo_wave_28 (c_mo_waveNow G st a1 a2 a3 (mo_isWave_in hI c_6).1 (mo_isWave_in hI c_6).2 (mo_within_in (by decide) c_21)) mw_mo_waveNow mi_mo_waveNow mz_mo_waveNow ml_mo_164 rfl rfl rfl rfl rfl (Nat.le_of_ble_eq_true rfl) rfl ?_
      refine r_goto (tgt := 37) hC d_mo_wave_31 (by decide) ?_
      exact r_iret hC hR d_mo_wave_37 rfl rfl
  ·
    refine r_sipush (v := (-10101)) hC d_mo_wave_9 (by decide) ?_
    refine r_goto (tgt := 37) hC d_mo_wave_12 (by decide) ?_
    exact r_iret hC hR d_mo_wave_37 rfl rfl
/-! TideTableModel.as(II)I -/
def mo_as (st : tt_St) (a1 : Int32) (a2 : Int32) : Int32 := (if (mo_isPort st a1) = 0 then (-10101) else (if (mo_within a2 0 4) = 0 then (-10102) else (if a2 = 0 then a1 else (if (tt_A st 50 (Int32.toNatClampNeg a1)) = a2 then a1 else (if a2 = 1 then (if (tt_A st 50 (Int32.toNatClampNeg a1)) = 2 then a1 else (-10001)) else (-10001))))))
set_option maxHeartbeats 4000000 in
set_option maxRecDepth 20000 in
theorem c_mo_as (G : tt_G) (st : tt_St) (a1 : Int32) (a2 : Int32) (hI : mo_ok st) : tt_C y_mo_as prog_7_method_26_code 4 (some .int) 2 43 G [.ref (tt_ad G 49), .int a1, .int a2] st (some (.int (mo_as st a1 a2))) st := by
  refine tt_enter (α := Int32) (mk := fun r => (some (.int r), st)) (T := (mo_as st a1 a2)) (by decide +kernel) (Nat.le_of_ble_eq_true rfl) (fun κ hC hR => ?_)
  rw [mo_as]
  refine r_aload_n 0 hC d_mo_as_0 rfl ?_
  refine r_iload_n 1 hC d_mo_as_1 rfl ?_
  refine r_callV (o := 49) (rest := []) (stk1 := [.int (mo_isPort st a1)]) hC d_mo_as_2 (c_mo_isPort G st a1) mw_mo_isPort mi_mo_isPort mz_mo_isPort ml_mo_147 rfl rfl rfl rfl rfl (Nat.le_of_ble_eq_true rfl) rfl ?_
  refine r_if_ne (tgt := 12) hC d_mo_as_5 (by decide) (fun c_5 => ?_) (fun c_5 => ?_)
  ·
    refine r_iload_n 2 hC d_mo_as_12 rfl ?_
    refine r_iconst (v := 0) hC d_mo_as_13 (by decide) ?_
    refine r_iconst (v := 4) hC d_mo_as_14 (by decide) ?_
    refine r_callS (rest := []) (stk1 := [.int (mo_within a2 0 4)]) hC d_mo_as_15 (c_mo_within G st a2 0 4) mw_mo_within ms_mo_within ml_mo_93 rfl rfl rfl (Nat.le_of_ble_eq_true rfl) rfl ?_
    refine r_if_ne (tgt := 25) hC d_mo_as_18 (by decide) (fun c_18 => ?_) (fun c_18 => ?_)
    ·
      refine r_aload_n 0 hC d_mo_as_25 rfl ?_
      refine r_getR (r := 50) hC d_mo_as_26 fl_mo_7 rfl rfl rfl ?_
      refine r_iload_n 1 hC d_mo_as_29 rfl ?_
      refine r_iald (n := 4) hC d_mo_as_30 rfl (by decide) rfl rfl (mo_isPort_in hI c_5) ?_
      refine r_istore_n [(3, .int (tt_A st 50 (Int32.toNatClampNeg a1))), (0, .ref (tt_ad G 49)), (1, .int a1), (2, .int a2)] hC d_mo_as_31 rfl (by decide) rfl ?_
      refine r_iload_n 3 hC d_mo_as_32 rfl ?_
      refine r_if_eq (tgt := 51) hC d_mo_as_33 (by decide) (fun c_33 => ?_) (fun c_33 => ?_)
      ·
        refine r_iload_n 2 hC d_mo_as_51 rfl ?_
        refine r_goto (tgt := 58) hC d_mo_as_52 (by decide) ?_
        exact r_iret hC hR d_mo_as_58 rfl rfl
      ·
        refine r_iload_n 0 hC d_mo_as_36 rfl ?_
        refine r_iload_n 3 hC d_mo_as_37 rfl ?_
        refine r_icmp_eq (tgt := 51) hC d_mo_as_38 (by decide) (fun c_38 => ?_) (fun c_38 => ?_)
        ·
          refine r_iload_n 2 hC d_mo_as_51 rfl ?_
          refine r_goto (tgt := 58) hC d_mo_as_52 (by decide) ?_
          exact r_iret hC hR d_mo_as_58 rfl rfl
        ·
          refine r_iload_n 3 hC d_mo_as_41 rfl ?_
          refine r_iconst (v := 1) hC d_mo_as_42 (by decide) ?_
          refine r_icmp_ne (tgt := 55) hC d_mo_as_43 (by decide) (fun c_43 => ?_) (fun c_43 => ?_)
          ·
            refine r_sipush (v := (-10001)) hC d_mo_as_55 (by decide) ?_
            exact r_iret hC hR d_mo_as_58 rfl rfl
          ·
            refine r_iload_n 0 hC d_mo_as_46 rfl ?_
            refine r_iconst (v := 2) hC d_mo_as_47 (by decide) ?_
            refine r_icmp_ne (tgt := 55) hC d_mo_as_48 (by decide) (fun c_48 => ?_) (fun c_48 => ?_)
            ·
              refine r_sipush (v := (-10001)) hC d_mo_as_55 (by decide) ?_
              exact r_iret hC hR d_mo_as_58 rfl rfl
            ·
              refine r_iload_n 2 hC d_mo_as_51 rfl ?_
              refine r_goto (tgt := 58) hC d_mo_as_52 (by decide) ?_
              exact r_iret hC hR d_mo_as_58 rfl rfl
    ·
      refine r_sipush (v := (-10102)) hC d_mo_as_21 (by decide) ?_
      exact r_iret hC hR d_mo_as_24 rfl rfl
  ·
    refine r_sipush (v := (-10101)) hC d_mo_as_8 (by decide) ?_
    exact r_iret hC hR d_mo_as_11 rfl rfl
/-! TideTableModel.turnAt(I)I -/
def mo_turnAt (st : tt_St) (a1 : Int32) : Int32 := (mo_by (((tt_A st 56 (Int32.toNatClampNeg (a1 / 16))) * (16 - (a1 - a1 / 16 * 16))) + ((tt_A st 56 (Int32.toNatClampNeg ((a1 / 16) + 1))) * (a1 - a1 / 16 * 16))) 16)
set_option maxHeartbeats 4000000 in
set_option maxRecDepth 20000 in
theorem c_mo_turnAt (G : tt_G) (st : tt_St) (a1 : Int32) (ha : vp_in a1 1024) : tt_C y_mo_turnAt prog_7_method_28_code 4 (some .int) 1 22 G [.ref (tt_ad G 49), .int a1] st (some (.int (mo_turnAt st a1))) st := by
  refine tt_enter (α := Int32) (mk := fun r => (some (.int r), st)) (T := (mo_turnAt st a1)) (by decide +kernel) (Nat.le_of_ble_eq_true rfl) (fun κ hC hR => ?_)
  rw [mo_turnAt]
  refine r_iload_n 1 hC d_mo_turnAt_0 rfl ?_
  refine r_bipush (v := 16) hC d_mo_turnAt_1 (by decide) ?_
  refine r_idiv hC d_mo_turnAt_3 (by decide) ?_
  refine r_istore_n [(2, .int (a1 / 16)), (0, .ref (tt_ad G 49)), (1, .int a1)] hC d_mo_turnAt_4 rfl (by decide) rfl ?_
  refine r_iload_n 2 hC d_mo_turnAt_5 rfl ?_
  refine r_bipush (v := 16) hC d_mo_turnAt_6 (by decide) ?_
  refine r_irem hC d_mo_turnAt_8 (by decide) ?_
  refine r_istore_n [(3, .int (a1 - a1 / 16 * 16)), (2, .int (a1 / 16)), (0, .ref (tt_ad G 49)), (1, .int a1)] hC d_mo_turnAt_9 rfl (by decide) rfl ?_
  refine r_aload_n 2 hC d_mo_turnAt_10 rfl ?_
  refine r_getR (r := 56) hC d_mo_turnAt_11 fl_mo_28 rfl rfl rfl ?_
  refine r_iload_n 1 hC d_mo_turnAt_14 rfl ?_
  refine r_iald (n := 65) hC d_mo_turnAt_15 rfl (by decide) rfl rfl (tt_ix16 ha).1 ?_
  refine r_bipush (v := 16) hC d_mo_turnAt_16 (by decide) ?_
  refine r_iload_n 0 hC d_mo_turnAt_18 rfl ?_
  refine r_isub hC d_mo_turnAt_19 ?_
  refine r_imul hC d_mo_turnAt_20 ?_
  refine r_aload_n 2 hC d_mo_turnAt_21 rfl ?_
  refine r_getR (r := 56) hC d_mo_turnAt_22 fl_mo_28 rfl rfl rfl ?_
  refine r_iload_n 1 hC d_mo_turnAt_25 rfl ?_
  refine r_iconst (v := 1) hC d_mo_turnAt_26 (by decide) ?_
  refine r_iadd hC d_mo_turnAt_27 ?_
  refine r_iald (n := 65) hC d_mo_turnAt_28 rfl (by decide) rfl rfl (tt_ix16 ha).2 ?_
  refine r_iload_n 0 hC d_mo_turnAt_29 rfl ?_
  refine r_imul hC d_mo_turnAt_30 ?_
  refine r_iadd hC d_mo_turnAt_31 ?_
  refine r_bipush (v := 16) hC d_mo_turnAt_32 (by decide) ?_
  refine r_callS (rest := []) (stk1 := [.int (mo_by (((tt_A st 56 (Int32.toNatClampNeg (a1 / 16))) * (16 - (a1 - a1 / 16 * 16))) + ((tt_A st 56 (Int32.toNatClampNeg ((a1 / 16) + 1))) * (a1 - a1 / 16 * 16))) 16)]) hC d_mo_turnAt_34 (c_mo_by G st (((tt_A st 56 (Int32.toNatClampNeg (a1 / 16))) * (16 - (a1 - a1 / 16 * 16))) + ((tt_A st 56 (Int32.toNatClampNeg ((a1 / 16) + 1))) * (a1 - a1 / 16 * 16))) 16 (by decide)) mw_mo_by ms_mo_by ml_mo_167 rfl rfl rfl (Nat.le_of_ble_eq_true rfl) rfl ?_
  exact r_iret hC hR d_mo_turnAt_37 rfl rfl
/-! TideTableModel.sumAt(II)I -/
def mo_sumAt_l13 (st : tt_St) (a1 : Int32) (a2 : Int32) : Nat → Nat → Int32 → Int32
  | 0, j, x3 => x3
  | n + 1, j, x3 => (mo_sumAt_l13 st a1 a2 n (j + 1) (x3 + (mo_by ((mo_waveNow st a1 (nI j) 1) * (mo_turnAt st ((((((mo_waveNow st a1 (nI j) 0) * a2) + (16 * (mo_waveNow st a1 (nI j) 2))) - (((mo_waveNow st a1 (nI j) 0) * a2) + (16 * (mo_waveNow st a1 (nI j) 2))) / 1024 * 1024) + 1024) - (((((mo_waveNow st a1 (nI j) 0) * a2) + (16 * (mo_waveNow st a1 (nI j) 2))) - (((mo_waveNow st a1 (nI j) 0) * a2) + (16 * (mo_waveNow st a1 (nI j) 2))) / 1024 * 1024) + 1024) / 1024 * 1024))) 100)))
set_option maxHeartbeats 4000000 in
set_option maxRecDepth 20000 in
theorem l_mo_sumAt_13 {α : Type} {G : tt_G} {κ : tt_X α} {T : α} (hC : tt_Cx G κ prog_7_method_29_code "TideTableModel" 7 2 45) (st : tt_St) (a1 : Int32) (a2 : Int32) (hI : mo_ok st) (hp : vp_in a1 4) (hN : (Int32.toNatClampNeg (tt_A st 54 (Int32.toNatClampNeg a1))) ≤ 3) : ∀ (n j : Nat) (x3 : Int32), j + n = (Int32.toNatClampNeg (tt_A st 54 (Int32.toNatClampNeg a1))) → tt_V G κ T st 93 [(3, .int (mo_sumAt_l13 st a1 a2 n j x3))] [] → tt_V G κ T st 13 [(0, .ref (tt_ad G 49)), (1, .int a1), (2, .int a2), (3, .int x3), (4, .int (nI j))] [] := by
  intro n
  induction n with
  | zero =>
    intro j x3 hj k
    refine r_iload 4 hC d_mo_sumAt_13 rfl ?_
    refine r_aload_n 0 hC d_mo_sumAt_15 rfl ?_
    refine r_getR (r := 54) hC d_mo_sumAt_16 fl_mo_22 rfl rfl rfl ?_
    refine r_iload_n 1 hC d_mo_sumAt_19 rfl ?_
    refine r_iald (n := 4) hC d_mo_sumAt_20 rfl (by decide) rfl rfl hp ?_
    refine t_icmp_ge (tgt := 93) hC d_mo_sumAt_21 (by decide) (tt_end (hI.2.2.2 _ (tt_inN hp)).1 (by omega) (by omega)) ?_
    exact tt_cast [3] rfl rfl k
  | succ n ih =>
    intro j x3 hj k
    refine r_iload 4 hC d_mo_sumAt_13 rfl ?_
    refine r_aload_n 0 hC d_mo_sumAt_15 rfl ?_
    refine r_getR (r := 54) hC d_mo_sumAt_16 fl_mo_22 rfl rfl rfl ?_
    refine r_iload_n 1 hC d_mo_sumAt_19 rfl ?_
    refine r_iald (n := 4) hC d_mo_sumAt_20 rfl (by decide) rfl rfl hp ?_
    refine f_icmp_ge (tgt := 93) hC d_mo_sumAt_21 (by decide) (tt_stay (by omega)) ?_
    refine r_aload_n 0 hC d_mo_sumAt_24 rfl ?_
    refine r_iload_n 1 hC d_mo_sumAt_25 rfl ?_
    refine r_iload 4 hC d_mo_sumAt_26 rfl ?_
    refine r_iconst (v := 0) hC d_mo_sumAt_28 (by decide) ?_
    refine r_callV (o := 49) (rest := []) (stk1 := [.int (mo_waveNow st a1 (nI j) 0)]) hC d_mo_sumAt_29 (c_mo_waveNow G st a1 (nI j) 0 hp (vp_in_nI (by omega) (by omega)) (by unfold vp_in; decide)) mw_mo_waveNow mi_mo_waveNow mz_mo_waveNow ml_mo_164 rfl rfl rfl rfl rfl (Nat.le_of_ble_eq_true rfl) rfl ?_
    refine r_iload_n 2 hC d_mo_sumAt_32 rfl ?_
    refine r_imul hC d_mo_sumAt_33 ?_
    refine r_bipush (v := 16) hC d_mo_sumAt_34 (by decide) ?_
    refine r_aload_n 0 hC d_mo_sumAt_36 rfl ?_
    refine r_iload_n 1 hC d_mo_sumAt_37 rfl ?_
    refine r_iload 4 hC d_mo_sumAt_38 rfl ?_
    refine r_iconst (v := 2) hC d_mo_sumAt_40 (by decide) ?_
    refine r_callV (o := 49) (rest := [.int 16, .int ((mo_waveNow st a1 (nI j) 0) * a2)]) (stk1 := [.int (mo_waveNow st a1 (nI j) 2), .int 16, .int ((mo_waveNow st a1 (nI j) 0) * a2)]) hC d_mo_sumAt_41 (c_mo_waveNow G st a1 (nI j) 2 hp (vp_in_nI (by omega) (by omega)) (by unfold vp_in; decide)) mw_mo_waveNow mi_mo_waveNow mz_mo_waveNow ml_mo_164 rfl rfl rfl rfl rfl (Nat.le_of_ble_eq_true rfl) rfl ?_
    refine r_imul hC d_mo_sumAt_44 ?_
    refine r_iadd hC d_mo_sumAt_45 ?_
    refine r_istore [(5, .int (((mo_waveNow st a1 (nI j) 0) * a2) + (16 * (mo_waveNow st a1 (nI j) 2)))), (0, .ref (tt_ad G 49)), (1, .int a1), (2, .int a2), (3, .int x3), (4, .int (nI j))] hC d_mo_sumAt_46 (by decide) rfl ?_
    refine r_iload 0 hC d_mo_sumAt_48 rfl ?_
    refine r_sipush (v := 1024) hC d_mo_sumAt_50 (by decide) ?_
    refine r_irem hC d_mo_sumAt_53 (by decide) ?_
    refine r_sipush (v := 1024) hC d_mo_sumAt_54 (by decide) ?_
    refine r_iadd hC d_mo_sumAt_57 ?_
    refine r_sipush (v := 1024) hC d_mo_sumAt_58 (by decide) ?_
    refine r_irem hC d_mo_sumAt_61 (by decide) ?_
    refine r_istore [(6, .int ((((((mo_waveNow st a1 (nI j) 0) * a2) + (16 * (mo_waveNow st a1 (nI j) 2))) - (((mo_waveNow st a1 (nI j) 0) * a2) + (16 * (mo_waveNow st a1 (nI j) 2))) / 1024 * 1024) + 1024) - (((((mo_waveNow st a1 (nI j) 0) * a2) + (16 * (mo_waveNow st a1 (nI j) 2))) - (((mo_waveNow st a1 (nI j) 0) * a2) + (16 * (mo_waveNow st a1 (nI j) 2))) / 1024 * 1024) + 1024) / 1024 * 1024)), (5, .int (((mo_waveNow st a1 (nI j) 0) * a2) + (16 * (mo_waveNow st a1 (nI j) 2)))), (0, .ref (tt_ad G 49)), (1, .int a1), (2, .int a2), (3, .int x3), (4, .int (nI j))] hC d_mo_sumAt_62 (by decide) rfl ?_
    refine r_iload_n 5 hC d_mo_sumAt_64 rfl ?_
    refine r_aload_n 2 hC d_mo_sumAt_65 rfl ?_
    refine r_iload_n 3 hC d_mo_sumAt_66 rfl ?_
    refine r_iload 6 hC d_mo_sumAt_67 rfl ?_
    refine r_iconst (v := 1) hC d_mo_sumAt_69 (by decide) ?_
    refine r_callV (o := 49) (rest := [.int x3]) (stk1 := [.int (mo_waveNow st a1 (nI j) 1), .int x3]) hC d_mo_sumAt_70 (c_mo_waveNow G st a1 (nI j) 1 hp (vp_in_nI (by omega) (by omega)) (by unfold vp_in; decide)) mw_mo_waveNow mi_mo_waveNow mz_mo_waveNow ml_mo_164 rfl rfl rfl rfl rfl (Nat.le_of_ble_eq_true rfl) rfl ?_
    refine r_aload_n 2 hC d_mo_sumAt_73 rfl ?_
    refine r_iload 0 hC d_mo_sumAt_74 rfl ?_
    refine r_callV (o := 49) (rest := [.int (mo_waveNow st a1 (nI j) 1), .int x3]) (stk1 := [.int (mo_turnAt st ((((((mo_waveNow st a1 (nI j) 0) * a2) + (16 * (mo_waveNow st a1 (nI j) 2))) - (((mo_waveNow st a1 (nI j) 0) * a2) + (16 * (mo_waveNow st a1 (nI j) 2))) / 1024 * 1024) + 1024) - (((((mo_waveNow st a1 (nI j) 0) * a2) + (16 * (mo_waveNow st a1 (nI j) 2))) - (((mo_waveNow st a1 (nI j) 0) * a2) + (16 * (mo_waveNow st a1 (nI j) 2))) / 1024 * 1024) + 1024) / 1024 * 1024)), .int (mo_waveNow st a1 (nI j) 1), .int x3]) hC d_mo_sumAt_76 (c_mo_turnAt G st ((((((mo_waveNow st a1 (nI j) 0) * a2) + (16 * (mo_waveNow st a1 (nI j) 2))) - (((mo_waveNow st a1 (nI j) 0) * a2) + (16 * (mo_waveNow st a1 (nI j) 2))) / 1024 * 1024) + 1024) - (((((mo_waveNow st a1 (nI j) 0) * a2) + (16 * (mo_waveNow st a1 (nI j) 2))) - (((mo_waveNow st a1 (nI j) 0) * a2) + (16 * (mo_waveNow st a1 (nI j) 2))) / 1024 * 1024) + 1024) / 1024 * 1024) (tt_in (tt_wrap (by decide) (by decide)).1 (tt_wrap (by decide) (by decide)).2)) mw_mo_turnAt mi_mo_turnAt mz_mo_turnAt ml_mo_170 rfl rfl rfl rfl rfl (Nat.le_of_ble_eq_true rfl) rfl ?_
    refine r_imul hC d_mo_sumAt_79 ?_
    refine r_bipush (v := 100) hC d_mo_sumAt_80 (by decide) ?_
    refine r_callS (rest := [.int x3]) (stk1 := [.int (mo_by ((mo_waveNow st a1 (nI j) 1) * (mo_turnAt st ((((((mo_waveNow st a1 (nI j) 0) * a2) + (16 * (mo_waveNow st a1 (nI j) 2))) - (((mo_waveNow st a1 (nI j) 0) * a2) + (16 * (mo_waveNow st a1 (nI j) 2))) / 1024 * 1024) + 1024) - (((((mo_waveNow st a1 (nI j) 0) * a2) + (16 * (mo_waveNow st a1 (nI j) 2))) - (((mo_waveNow st a1 (nI j) 0) * a2) + (16 * (mo_waveNow st a1 (nI j) 2))) / 1024 * 1024) + 1024) / 1024 * 1024))) 100), .int x3]) hC d_mo_sumAt_82 (c_mo_by G st ((mo_waveNow st a1 (nI j) 1) * (mo_turnAt st ((((((mo_waveNow st a1 (nI j) 0) * a2) + (16 * (mo_waveNow st a1 (nI j) 2))) - (((mo_waveNow st a1 (nI j) 0) * a2) + (16 * (mo_waveNow st a1 (nI j) 2))) / 1024 * 1024) + 1024) - (((((mo_waveNow st a1 (nI j) 0) * a2) + (16 * (mo_waveNow st a1 (nI j) 2))) - (((mo_waveNow st a1 (nI j) 0) * a2) + (16 * (mo_waveNow st a1 (nI j) 2))) / 1024 * 1024) + 1024) / 1024 * 1024))) 100 (by decide)) mw_mo_by ms_mo_by ml_mo_167 rfl rfl rfl (Nat.le_of_ble_eq_true rfl) rfl ?_
    refine r_iadd hC d_mo_sumAt_85 ?_
    refine r_istore_n [(3, .int (x3 + (mo_by ((mo_waveNow st a1 (nI j) 1) * (mo_turnAt st ((((((mo_waveNow st a1 (nI j) 0) * a2) + (16 * (mo_waveNow st a1 (nI j) 2))) - (((mo_waveNow st a1 (nI j) 0) * a2) + (16 * (mo_waveNow st a1 (nI j) 2))) / 1024 * 1024) + 1024) - (((((mo_waveNow st a1 (nI j) 0) * a2) + (16 * (mo_waveNow st a1 (nI j) 2))) - (((mo_waveNow st a1 (nI j) 0) * a2) + (16 * (mo_waveNow st a1 (nI j) 2))) / 1024 * 1024) + 1024) / 1024 * 1024))) 100))), (6, .int ((((((mo_waveNow st a1 (nI j) 0) * a2) + (16 * (mo_waveNow st a1 (nI j) 2))) - (((mo_waveNow st a1 (nI j) 0) * a2) + (16 * (mo_waveNow st a1 (nI j) 2))) / 1024 * 1024) + 1024) - (((((mo_waveNow st a1 (nI j) 0) * a2) + (16 * (mo_waveNow st a1 (nI j) 2))) - (((mo_waveNow st a1 (nI j) 0) * a2) + (16 * (mo_waveNow st a1 (nI j) 2))) / 1024 * 1024) + 1024) / 1024 * 1024)), (5, .int (((mo_waveNow st a1 (nI j) 0) * a2) + (16 * (mo_waveNow st a1 (nI j) 2)))), (0, .ref (tt_ad G 49)), (1, .int a1), (2, .int a2), (4, .int (nI j))] hC d_mo_sumAt_86 rfl (by decide) rfl ?_
    refine r_iinc 6 (nI (j + 1)) [(4, .int (nI (j + 1))), (3, .int (x3 + (mo_by ((mo_waveNow st a1 (nI j) 1) * (mo_turnAt st ((((((mo_waveNow st a1 (nI j) 0) * a2) + (16 * (mo_waveNow st a1 (nI j) 2))) - (((mo_waveNow st a1 (nI j) 0) * a2) + (16 * (mo_waveNow st a1 (nI j) 2))) / 1024 * 1024) + 1024) - (((((mo_waveNow st a1 (nI j) 0) * a2) + (16 * (mo_waveNow st a1 (nI j) 2))) - (((mo_waveNow st a1 (nI j) 0) * a2) + (16 * (mo_waveNow st a1 (nI j) 2))) / 1024 * 1024) + 1024) / 1024 * 1024))) 100))), (6, .int ((((((mo_waveNow st a1 (nI j) 0) * a2) + (16 * (mo_waveNow st a1 (nI j) 2))) - (((mo_waveNow st a1 (nI j) 0) * a2) + (16 * (mo_waveNow st a1 (nI j) 2))) / 1024 * 1024) + 1024) - (((((mo_waveNow st a1 (nI j) 0) * a2) + (16 * (mo_waveNow st a1 (nI j) 2))) - (((mo_waveNow st a1 (nI j) 0) * a2) + (16 * (mo_waveNow st a1 (nI j) 2))) / 1024 * 1024) + 1024) / 1024 * 1024)), (5, .int (((mo_waveNow st a1 (nI j) 0) * a2) + (16 * (mo_waveNow st a1 (nI j) 2)))), (0, .ref (tt_ad G 49)), (1, .int a1), (2, .int a2)] hC d_mo_sumAt_87 rfl (by rw [nI_succ]; rfl) (by decide) rfl ?_
    refine r_goto (tgt := 13) hC d_mo_sumAt_90 (by decide) ?_
    exact tt_cast [4, 5, 6, 1, 0] rfl rfl (ih (j + 1) (x3 + (mo_by ((mo_waveNow st a1 (nI j) 1) * (mo_turnAt st ((((((mo_waveNow st a1 (nI j) 0) * a2) + (16 * (mo_waveNow st a1 (nI j) 2))) - (((mo_waveNow st a1 (nI j) 0) * a2) + (16 * (mo_waveNow st a1 (nI j) 2))) / 1024 * 1024) + 1024) - (((((mo_waveNow st a1 (nI j) 0) * a2) + (16 * (mo_waveNow st a1 (nI j) 2))) - (((mo_waveNow st a1 (nI j) 0) * a2) + (16 * (mo_waveNow st a1 (nI j) 2))) / 1024 * 1024) + 1024) / 1024 * 1024))) 100)) (by omega) (by simpa only [mo_sumAt_l13] using k))
def mo_sumAt (st : tt_St) (a1 : Int32) (a2 : Int32) : Int32 := (mo_sumAt_l13 st a1 a2 (Int32.toNatClampNeg (tt_A st 54 (Int32.toNatClampNeg a1))) 0 (10 * (tt_A st 51 (Int32.toNatClampNeg a1))))
set_option maxHeartbeats 4000000 in
set_option maxRecDepth 20000 in
theorem c_mo_sumAt (G : tt_G) (st : tt_St) (a1 : Int32) (a2 : Int32) (hI : mo_ok st) (hp : vp_in a1 4) : tt_C y_mo_sumAt prog_7_method_29_code 7 (some .int) 2 45 G [.ref (tt_ad G 49), .int a1, .int a2] st (some (.int (mo_sumAt st a1 a2))) st := by
  refine tt_enter (α := Int32) (mk := fun r => (some (.int r), st)) (T := (mo_sumAt st a1 a2)) (by decide +kernel) (Nat.le_of_ble_eq_true rfl) (fun κ hC hR => ?_)
  rw [mo_sumAt]
  refine r_bipush (v := 10) hC d_mo_sumAt_0 (by decide) ?_
  refine r_aload_n 0 hC d_mo_sumAt_2 rfl ?_
  refine r_getR (r := 51) hC d_mo_sumAt_3 fl_mo_13 rfl rfl rfl ?_
  refine r_iload_n 1 hC d_mo_sumAt_6 rfl ?_
  refine r_iald (n := 4) hC d_mo_sumAt_7 rfl (by decide) rfl rfl hp ?_
  refine r_imul hC d_mo_sumAt_8 ?_
  refine r_istore_n [(3, .int (10 * (tt_A st 51 (Int32.toNatClampNeg a1)))), (0, .ref (tt_ad G 49)), (1, .int a1), (2, .int a2)] hC d_mo_sumAt_9 rfl (by decide) rfl ?_
  refine r_iconst (v := 0) hC d_mo_sumAt_10 (by decide) ?_
  refine r_istore [(4, .int 0), (3, .int (10 * (tt_A st 51 (Int32.toNatClampNeg a1)))), (0, .ref (tt_ad G 49)), (1, .int a1), (2, .int a2)] hC d_mo_sumAt_11 (by decide) rfl ?_
  refine tt_cast [2, 3, 4, 1, 0] rfl rfl (l_mo_sumAt_13 hC st a1 a2 hI hp (tt_cle (hI.2.2.2 _ (tt_inN hp)).2) (Int32.toNatClampNeg (tt_A st 54 (Int32.toNatClampNeg a1))) 0 (10 * (tt_A st 51 (Int32.toNatClampNeg a1))) (by omega)  ?_)
  refine r_iload_n 0 hC d_mo_sumAt_93 rfl ?_
  exact r_iret hC hR d_mo_sumAt_94 rfl rfl
/-! TideTableModel.silled(II)I -/
def mo_silled (st : tt_St) (a1 : Int32) (a2 : Int32) : Int32 := (if (mo_sumAt st a1 a2) ≤ (10 * (tt_A st 52 (Int32.toNatClampNeg a1))) then (10 * (tt_A st 52 (Int32.toNatClampNeg a1))) else (mo_sumAt st a1 a2))
set_option maxHeartbeats 4000000 in
set_option maxRecDepth 20000 in
theorem c_mo_silled (G : tt_G) (st : tt_St) (a1 : Int32) (a2 : Int32) (hI : mo_ok st) (hp : vp_in a1 4) : tt_C y_mo_silled prog_7_method_30_code 4 (some .int) 3 71 G [.ref (tt_ad G 49), .int a1, .int a2] st (some (.int (mo_silled st a1 a2))) st := by
  refine tt_enter (α := Int32) (mk := fun r => (some (.int r), st)) (T := (mo_silled st a1 a2)) (by decide +kernel) (Nat.le_of_ble_eq_true rfl) (fun κ hC hR => ?_)
  rw [mo_silled]
  refine r_aload_n 0 hC d_mo_silled_0 rfl ?_
  refine r_iload_n 1 hC d_mo_silled_1 rfl ?_
  refine r_iload_n 2 hC d_mo_silled_2 rfl ?_
  refine r_callV (o := 49) (rest := []) (stk1 := [.int (mo_sumAt st a1 a2)]) hC d_mo_silled_3 (c_mo_sumAt G st a1 a2 hI hp) mw_mo_sumAt mi_mo_sumAt mz_mo_sumAt ml_mo_173 rfl rfl rfl rfl rfl (Nat.le_of_ble_eq_true rfl) rfl ?_
  refine r_istore_n [(3, .int (mo_sumAt st a1 a2)), (0, .ref (tt_ad G 49)), (1, .int a1), (2, .int a2)] hC d_mo_silled_6 rfl (by decide) rfl ?_
  refine r_iload_n 0 hC d_mo_silled_7 rfl ?_
  refine r_bipush (v := 10) hC d_mo_silled_8 (by decide) ?_
  refine r_aload_n 1 hC d_mo_silled_10 rfl ?_
  refine r_getR (r := 52) hC d_mo_silled_11 fl_mo_16 rfl rfl rfl ?_
  refine r_iload_n 2 hC d_mo_silled_14 rfl ?_
  refine r_iald (n := 4) hC d_mo_silled_15 rfl (by decide) rfl rfl hp ?_
  refine r_imul hC d_mo_silled_16 ?_
  refine r_icmp_le (tgt := 24) hC d_mo_silled_17 (by decide) (fun c_17 => ?_) (fun c_17 => ?_)
  ·
    refine r_bipush (v := 10) hC d_mo_silled_24 (by decide) ?_
    refine r_aload_n 1 hC d_mo_silled_26 rfl ?_
    refine r_getR (r := 52) hC d_mo_silled_27 fl_mo_16 rfl rfl rfl ?_
    refine r_iload_n 2 hC d_mo_silled_30 rfl ?_
    refine r_iald (n := 4) hC d_mo_silled_31 rfl (by decide) rfl rfl hp ?_
    refine r_imul hC d_mo_silled_32 ?_
    exact r_iret hC hR d_mo_silled_33 rfl rfl
  ·
    refine r_iload_n 0 hC d_mo_silled_20 rfl ?_
    refine r_goto (tgt := 33) hC d_mo_silled_21 (by decide) ?_
    exact r_iret hC hR d_mo_silled_33 rfl rfl
/-! TideTableModel.ownHeight(II)I -/
def mo_ownHeight_l53 (st : tt_St) (a1 : Int32) (a2 : Int32) : Nat → Nat → Int32 → Int32
  | 0, j, x3 => x3
  | n + 1, j, x3 => (mo_ownHeight_l53 st a1 a2 n (j + 1) (if (mo_silled st a1 (a2 - (nI j))) ≤ x3 then x3 else (mo_silled st a1 (a2 - (nI j))) : Int32))
set_option maxHeartbeats 4000000 in
set_option maxRecDepth 20000 in
theorem l_mo_ownHeight_53 {α : Type} {G : tt_G} {κ : tt_X α} {T : α} (hC : tt_Cx G κ prog_7_method_31_code "TideTableModel" 6 4 94) (st : tt_St) (a1 : Int32) (a2 : Int32) (hI : mo_ok st) (hp : vp_in a1 4) : ∀ (n j : Nat) (x3 : Int32), j + n = 7 → tt_V G κ T st 90 [(3, .int (mo_ownHeight_l53 st a1 a2 n j x3))] [] → tt_V G κ T st 53 [(0, .ref (tt_ad G 49)), (1, .int a1), (2, .int a2), (3, .int x3), (4, .int (nI j))] [] := by
  intro n
  induction n with
  | zero =>
    intro j x3 hj k
    refine r_iload 4 hC d_mo_ownHeight_53 rfl ?_
    refine r_bipush (v := 6) hC d_mo_ownHeight_55 (by decide) ?_
    refine t_icmp_gt (tgt := 90) hC d_mo_ownHeight_57 (by decide) (nI_lt (a := 6) (by omega) (by omega)) ?_
    exact tt_cast [3] rfl rfl k
  | succ n ih =>
    intro j x3 hj k
    refine r_iload 4 hC d_mo_ownHeight_53 rfl ?_
    refine r_bipush (v := 6) hC d_mo_ownHeight_55 (by decide) ?_
    refine f_icmp_gt (tgt := 90) hC d_mo_ownHeight_57 (by decide) (nI_nlt (a := 6) (b := j) (by omega) (by omega)) ?_
    refine r_aload_n 0 hC d_mo_ownHeight_60 rfl ?_
    refine r_iload_n 1 hC d_mo_ownHeight_61 rfl ?_
    refine r_iload_n 2 hC d_mo_ownHeight_62 rfl ?_
    refine r_iload 4 hC d_mo_ownHeight_63 rfl ?_
    refine r_isub hC d_mo_ownHeight_65 ?_
    refine r_callV (o := 49) (rest := []) (stk1 := [.int (mo_silled st a1 (a2 - (nI j)))]) hC d_mo_ownHeight_66 (c_mo_silled G st a1 (a2 - (nI j)) hI hp) mw_mo_silled mi_mo_silled mz_mo_silled ml_mo_176 rfl rfl rfl rfl rfl (Nat.le_of_ble_eq_true rfl) rfl ?_
    refine r_istore [(5, .int (mo_silled st a1 (a2 - (nI j)))), (0, .ref (tt_ad G 49)), (1, .int a1), (2, .int a2), (3, .int x3), (4, .int (nI j))] hC d_mo_ownHeight_69 (by decide) rfl ?_
    refine r_iload 0 hC d_mo_ownHeight_71 rfl ?_
    refine r_iload_n 4 hC d_mo_ownHeight_73 rfl ?_
    refine tt_join 83 [(0, .ref (tt_ad G 49)), (1, .int a1), (2, .int a2), (4, .int (nI j))] [.int (if (mo_silled st a1 (a2 - (nI j))) ≤ x3 then x3 else (mo_silled st a1 (a2 - (nI j))) : Int32)] ?_ (fun kj_74 => ?_)
    ·
      refine r_istore_n [(3, .int (if (mo_silled st a1 (a2 - (nI j))) ≤ x3 then x3 else (mo_silled st a1 (a2 - (nI j))) : Int32)), (0, .ref (tt_ad G 49)), (1, .int a1), (2, .int a2), (4, .int (nI j))] hC d_mo_ownHeight_83 rfl (by decide) rfl ?_
      refine r_iinc 4 (nI (j + 1)) [(4, .int (nI (j + 1))), (3, .int (if (mo_silled st a1 (a2 - (nI j))) ≤ x3 then x3 else (mo_silled st a1 (a2 - (nI j))) : Int32)), (0, .ref (tt_ad G 49)), (1, .int a1), (2, .int a2)] hC d_mo_ownHeight_84 rfl (by rw [nI_succ]; rfl) (by decide) rfl ?_
      refine r_goto (tgt := 53) hC d_mo_ownHeight_87 (by decide) ?_
      exact tt_cast [2, 3, 4, 1, 0] rfl rfl (ih (j + 1) (if (mo_silled st a1 (a2 - (nI j))) ≤ x3 then x3 else (mo_silled st a1 (a2 - (nI j))) : Int32) (by omega) (by simpa only [mo_ownHeight_l53] using k))
    ·
      refine j_icmp_le (tgt := 82) hC d_mo_ownHeight_74 (by decide) (fun c_74 => ?_) (fun c_74 => ?_)
      ·
        refine r_iload_n 4 hC d_mo_ownHeight_82 rfl ?_
        exact tt_cast [1, 2, 3, 5] rfl (by simp only [if_pos c_74]) kj_74
      ·
        refine r_iload 0 hC d_mo_ownHeight_77 rfl ?_
        refine r_goto (tgt := 83) hC d_mo_ownHeight_79 (by decide) ?_
        exact tt_cast [1, 2, 3, 5] rfl (by simp only [if_neg c_74]) kj_74
def mo_ownHeight (st : tt_St) (a1 : Int32) (a2 : Int32) : Int32 := (if (tt_A st 50 (Int32.toNatClampNeg a1)) = 1 then (mo_silled st a1 a2) else (if (tt_A st 50 (Int32.toNatClampNeg a1)) = 2 then (mo_ownHeight_l53 st a1 a2 6 1 (mo_silled st a1 a2)) else (if (tt_A st 50 (Int32.toNatClampNeg a1)) = 3 then (mo_sumAt st a1 a2) else (if (tt_A st 50 (Int32.toNatClampNeg a1)) = 4 then (if ((mo_by a2 144) &&& 1) = 1 then ((mo_sumAt st a1 a2) + (tt_A st 52 (Int32.toNatClampNeg a1))) else ((mo_sumAt st a1 a2) + 0)) else (mo_sumAt st a1 a2)))))
set_option maxHeartbeats 4000000 in
set_option maxRecDepth 20000 in
theorem c_mo_ownHeight (G : tt_G) (st : tt_St) (a1 : Int32) (a2 : Int32) (hI : mo_ok st) (hp : vp_in a1 4) : tt_C y_mo_ownHeight prog_7_method_31_code 6 (some .int) 4 94 G [.ref (tt_ad G 49), .int a1, .int a2] st (some (.int (mo_ownHeight st a1 a2))) st := by
  refine tt_enter (α := Int32) (mk := fun r => (some (.int r), st)) (T := (mo_ownHeight st a1 a2)) (by decide +kernel) (Nat.le_of_ble_eq_true rfl) (fun κ hC hR => ?_)
  rw [mo_ownHeight]
  refine r_aload_n 0 hC d_mo_ownHeight_0 rfl ?_
  refine r_getR (r := 50) hC d_mo_ownHeight_1 fl_mo_7 rfl rfl rfl ?_
  refine r_iload_n 1 hC d_mo_ownHeight_4 rfl ?_
  refine r_iald (n := 4) hC d_mo_ownHeight_5 rfl (by decide) rfl rfl hp ?_
  refine tt_ite (c := (tt_A st 50 (Int32.toNatClampNeg a1)) = 1) (fun c_6_1 => ?_) (fun c_6_1 => ?_)
  ·
    refine r_tabIn (tgt := 36) (off := 30) hC d_mo_ownHeight_6 (by rw [c_6_1]; decide) (by rw [c_6_1]; decide) (by rw [c_6_1]; decide) (by decide) ?_
    refine r_aload_n 0 hC d_mo_ownHeight_36 rfl ?_
    refine r_iload_n 1 hC d_mo_ownHeight_37 rfl ?_
    refine r_iload_n 2 hC d_mo_ownHeight_38 rfl ?_
    refine r_callV (o := 49) (rest := []) (stk1 := [.int (mo_silled st a1 a2)]) hC d_mo_ownHeight_39 (c_mo_silled G st a1 a2 hI hp) mw_mo_silled mi_mo_silled mz_mo_silled ml_mo_176 rfl rfl rfl rfl rfl (Nat.le_of_ble_eq_true rfl) rfl ?_
    exact r_iret hC hR d_mo_ownHeight_42 rfl rfl
  ·
    refine tt_ite (c := (tt_A st 50 (Int32.toNatClampNeg a1)) = 2) (fun c_6_2 => ?_) (fun c_6_2 => ?_)
    ·
      refine r_tabIn (tgt := 43) (off := 37) hC d_mo_ownHeight_6 (by rw [c_6_2]; decide) (by rw [c_6_2]; decide) (by rw [c_6_2]; decide) (by decide) ?_
      refine r_aload_n 0 hC d_mo_ownHeight_43 rfl ?_
      refine r_iload_n 1 hC d_mo_ownHeight_44 rfl ?_
      refine r_iload_n 2 hC d_mo_ownHeight_45 rfl ?_
      refine r_callV (o := 49) (rest := []) (stk1 := [.int (mo_silled st a1 a2)]) hC d_mo_ownHeight_46 (c_mo_silled G st a1 a2 hI hp) mw_mo_silled mi_mo_silled mz_mo_silled ml_mo_176 rfl rfl rfl rfl rfl (Nat.le_of_ble_eq_true rfl) rfl ?_
      refine r_istore_n [(3, .int (mo_silled st a1 a2)), (0, .ref (tt_ad G 49)), (1, .int a1), (2, .int a2)] hC d_mo_ownHeight_49 rfl (by decide) rfl ?_
      refine r_iconst (v := 1) hC d_mo_ownHeight_50 (by decide) ?_
      refine r_istore [(4, .int 1), (3, .int (mo_silled st a1 a2)), (0, .ref (tt_ad G 49)), (1, .int a1), (2, .int a2)] hC d_mo_ownHeight_51 (by decide) rfl ?_
      refine tt_cast [2, 3, 4, 1, 0] rfl rfl (l_mo_ownHeight_53 hC st a1 a2 hI hp 6 1 (mo_silled st a1 a2) (by omega)  ?_)
      refine r_iload_n 0 hC d_mo_ownHeight_90 rfl ?_
      exact r_iret hC hR d_mo_ownHeight_91 rfl rfl
    ·
      refine tt_ite (c := (tt_A st 50 (Int32.toNatClampNeg a1)) = 3) (fun c_6_3 => ?_) (fun c_6_3 => ?_)
      ·
        refine r_tabIn (tgt := 123) (off := 117) hC d_mo_ownHeight_6 (by rw [c_6_3]; decide) (by rw [c_6_3]; decide) (by rw [c_6_3]; decide) (by decide) ?_
        refine r_aload_n 0 hC d_mo_ownHeight_123 rfl ?_
        refine r_iload_n 1 hC d_mo_ownHeight_124 rfl ?_
        refine r_iload_n 2 hC d_mo_ownHeight_125 rfl ?_
        refine r_callV (o := 49) (rest := []) (stk1 := [.int (mo_sumAt st a1 a2)]) hC d_mo_ownHeight_126 (c_mo_sumAt G st a1 a2 hI hp) mw_mo_sumAt mi_mo_sumAt mz_mo_sumAt ml_mo_173 rfl rfl rfl rfl rfl (Nat.le_of_ble_eq_true rfl) rfl ?_
        exact r_iret hC hR d_mo_ownHeight_129 rfl rfl
      ·
        refine tt_ite (c := (tt_A st 50 (Int32.toNatClampNeg a1)) = 4) (fun c_6_4 => ?_) (fun c_6_4 => ?_)
        ·
          refine r_tabIn (tgt := 92) (off := 86) hC d_mo_ownHeight_6 (by rw [c_6_4]; decide) (by rw [c_6_4]; decide) (by rw [c_6_4]; decide) (by decide) ?_
          refine r_aload_n 0 hC d_mo_ownHeight_92 rfl ?_
          refine r_iload_n 1 hC d_mo_ownHeight_93 rfl ?_
          refine r_iload_n 2 hC d_mo_ownHeight_94 rfl ?_
          refine r_callV (o := 49) (rest := []) (stk1 := [.int (mo_sumAt st a1 a2)]) hC d_mo_ownHeight_95 (c_mo_sumAt G st a1 a2 hI hp) mw_mo_sumAt mi_mo_sumAt mz_mo_sumAt ml_mo_173 rfl rfl rfl rfl rfl (Nat.le_of_ble_eq_true rfl) rfl ?_
          refine r_iload_n 2 hC d_mo_ownHeight_98 rfl ?_
          refine r_sipush (v := 144) hC d_mo_ownHeight_99 (by decide) ?_
          refine r_callS (rest := [.int (mo_sumAt st a1 a2)]) (stk1 := [.int (mo_by a2 144), .int (mo_sumAt st a1 a2)]) hC d_mo_ownHeight_102 (c_mo_by G st a2 144 (by decide)) mw_mo_by ms_mo_by ml_mo_167 rfl rfl rfl (Nat.le_of_ble_eq_true rfl) rfl ?_
          refine r_iconst (v := 1) hC d_mo_ownHeight_105 (by decide) ?_
          refine r_iand hC d_mo_ownHeight_106 ?_
          refine r_iconst (v := 1) hC d_mo_ownHeight_107 (by decide) ?_
          refine r_icmp_ne (tgt := 120) hC d_mo_ownHeight_108 (by decide) (fun c_108 => ?_) (fun c_108 => ?_)
          ·
            refine r_iconst (v := 0) hC d_mo_ownHeight_120 (by decide) ?_
            refine r_iadd hC d_mo_ownHeight_121 ?_
            exact r_iret hC hR d_mo_ownHeight_122 rfl rfl
          ·
            refine r_aload_n 0 hC d_mo_ownHeight_111 rfl ?_
            refine r_getR (r := 52) hC d_mo_ownHeight_112 fl_mo_16 rfl rfl rfl ?_
            refine r_iload_n 1 hC d_mo_ownHeight_115 rfl ?_
            refine r_iald (n := 4) hC d_mo_ownHeight_116 rfl (by decide) rfl rfl hp ?_
            refine r_goto (tgt := 121) hC d_mo_ownHeight_117 (by decide) ?_
            refine r_iadd hC d_mo_ownHeight_121 ?_
            exact r_iret hC hR d_mo_ownHeight_122 rfl rfl
        ·
          have nc_6_1 := lv_neT (a := 1) c_6_1 (by decide)
          have nc_6_2 := lv_neT (a := 2) c_6_2 (by decide)
          have nc_6_3 := lv_neT (a := 3) c_6_3 (by decide)
          have nc_6_4 := lv_neT (a := 4) c_6_4 (by decide)
          refine r_tabOut (tgt := 123) hC d_mo_ownHeight_6 (by omega) (by decide) ?_
          refine r_aload_n 0 hC d_mo_ownHeight_123 rfl ?_
          refine r_iload_n 1 hC d_mo_ownHeight_124 rfl ?_
          refine r_iload_n 2 hC d_mo_ownHeight_125 rfl ?_
          refine r_callV (o := 49) (rest := []) (stk1 := [.int (mo_sumAt st a1 a2)]) hC d_mo_ownHeight_126 (c_mo_sumAt G st a1 a2 hI hp) mw_mo_sumAt mi_mo_sumAt mz_mo_sumAt ml_mo_173 rfl rfl rfl rfl rfl (Nat.le_of_ble_eq_true rfl) rfl ?_
          exact r_iret hC hR d_mo_ownHeight_129 rfl rfl
/-! TideTableModel.heightAt(II)I -/
def mo_heightAt (st : tt_St) (a1 : Int32) (a2 : Int32) : Int32 := (if (tt_A st 50 (Int32.toNatClampNeg a1)) = 3 then ((mo_by ((mo_ownHeight st 0 (a2 - (tt_A st 52 (Int32.toNatClampNeg a1)))) * (tt_A st 53 (Int32.toNatClampNeg a1))) 100) + (10 * (tt_A st 51 (Int32.toNatClampNeg a1)))) else (mo_ownHeight st a1 a2))
set_option maxHeartbeats 4000000 in
set_option maxRecDepth 20000 in
theorem c_mo_heightAt (G : tt_G) (st : tt_St) (a1 : Int32) (a2 : Int32) (hI : mo_ok st) (hp : vp_in a1 4) : tt_C y_mo_heightAt prog_7_method_32_code 3 (some .int) 5 119 G [.ref (tt_ad G 49), .int a1, .int a2] st (some (.int (mo_heightAt st a1 a2))) st := by
  refine tt_enter (α := Int32) (mk := fun r => (some (.int r), st)) (T := (mo_heightAt st a1 a2)) (by decide +kernel) (Nat.le_of_ble_eq_true rfl) (fun κ hC hR => ?_)
  rw [mo_heightAt]
  refine r_aload_n 0 hC d_mo_heightAt_0 rfl ?_
  refine r_getR (r := 50) hC d_mo_heightAt_1 fl_mo_7 rfl rfl rfl ?_
  refine r_iload_n 1 hC d_mo_heightAt_4 rfl ?_
  refine r_iald (n := 4) hC d_mo_heightAt_5 rfl (by decide) rfl rfl hp ?_
  refine r_iconst (v := 3) hC d_mo_heightAt_6 (by decide) ?_
  refine r_icmp_eq (tgt := 17) hC d_mo_heightAt_7 (by decide) (fun c_7 => ?_) (fun c_7 => ?_)
  ·
    refine r_aload_n 0 hC d_mo_heightAt_17 rfl ?_
    refine r_iconst (v := 0) hC d_mo_heightAt_18 (by decide) ?_
    refine r_iload_n 2 hC d_mo_heightAt_19 rfl ?_
    refine r_aload_n 0 hC d_mo_heightAt_20 rfl ?_
    refine r_getR (r := 52) hC d_mo_heightAt_21 fl_mo_16 rfl rfl rfl ?_
    refine r_iload_n 1 hC d_mo_heightAt_24 rfl ?_
    refine r_iald (n := 4) hC d_mo_heightAt_25 rfl (by decide) rfl rfl hp ?_
    refine r_isub hC d_mo_heightAt_26 ?_
    refine r_callV (o := 49) (rest := []) (stk1 := [.int (mo_ownHeight st 0 (a2 - (tt_A st 52 (Int32.toNatClampNeg a1))))]) hC d_mo_heightAt_27 (c_mo_ownHeight G st 0 (a2 - (tt_A st 52 (Int32.toNatClampNeg a1))) hI (by unfold vp_in; decide)) mw_mo_ownHeight mi_mo_ownHeight mz_mo_ownHeight ml_mo_179 rfl rfl rfl rfl rfl (Nat.le_of_ble_eq_true rfl) rfl ?_
    refine r_aload_n 0 hC d_mo_heightAt_30 rfl ?_
    refine r_getR (r := 53) hC d_mo_heightAt_31 fl_mo_19 rfl rfl rfl ?_
    refine r_iload_n 1 hC d_mo_heightAt_34 rfl ?_
    refine r_iald (n := 4) hC d_mo_heightAt_35 rfl (by decide) rfl rfl hp ?_
    refine r_imul hC d_mo_heightAt_36 ?_
    refine r_bipush (v := 100) hC d_mo_heightAt_37 (by decide) ?_
    refine r_callS (rest := []) (stk1 := [.int (mo_by ((mo_ownHeight st 0 (a2 - (tt_A st 52 (Int32.toNatClampNeg a1)))) * (tt_A st 53 (Int32.toNatClampNeg a1))) 100)]) hC d_mo_heightAt_39 (c_mo_by G st ((mo_ownHeight st 0 (a2 - (tt_A st 52 (Int32.toNatClampNeg a1)))) * (tt_A st 53 (Int32.toNatClampNeg a1))) 100 (by decide)) mw_mo_by ms_mo_by ml_mo_167 rfl rfl rfl (Nat.le_of_ble_eq_true rfl) rfl ?_
    refine r_bipush (v := 10) hC d_mo_heightAt_42 (by decide) ?_
    refine r_aload_n 0 hC d_mo_heightAt_44 rfl ?_
    refine r_getR (r := 51) hC d_mo_heightAt_45 fl_mo_13 rfl rfl rfl ?_
    refine r_iload_n 1 hC d_mo_heightAt_48 rfl ?_
    refine r_iald (n := 4) hC d_mo_heightAt_49 rfl (by decide) rfl rfl hp ?_
    refine r_imul hC d_mo_heightAt_50 ?_
    refine r_iadd hC d_mo_heightAt_51 ?_
    exact r_iret hC hR d_mo_heightAt_52 rfl rfl
  ·
    refine r_aload_n 0 hC d_mo_heightAt_10 rfl ?_
    refine r_iload_n 1 hC d_mo_heightAt_11 rfl ?_
    refine r_iload_n 2 hC d_mo_heightAt_12 rfl ?_
    refine r_callV (o := 49) (rest := []) (stk1 := [.int (mo_ownHeight st a1 a2)]) hC d_mo_heightAt_13 (c_mo_ownHeight G st a1 a2 hI hp) mw_mo_ownHeight mi_mo_ownHeight mz_mo_ownHeight ml_mo_179 rfl rfl rfl rfl rfl (Nat.le_of_ble_eq_true rfl) rfl ?_
    exact r_iret hC hR d_mo_heightAt_16 rfl rfl
/-! TideTableModel.sum(II)I -/
def mo_sum (st : tt_St) (a1 : Int32) (a2 : Int32) : Int32 := (if (mo_isPort st a1) = 0 then (-10101) else (if (mo_isTick a2) = 0 then (-10102) else (mo_sumAt st a1 a2)))
set_option maxHeartbeats 4000000 in
set_option maxRecDepth 20000 in
theorem c_mo_sum (G : tt_G) (st : tt_St) (a1 : Int32) (a2 : Int32) (hI : mo_ok st) : tt_C y_mo_sum prog_7_method_34_code 3 (some .int) 3 71 G [.ref (tt_ad G 49), .int a1, .int a2] st (some (.int (mo_sum st a1 a2))) st := by
  refine tt_enter (α := Int32) (mk := fun r => (some (.int r), st)) (T := (mo_sum st a1 a2)) (by decide +kernel) (Nat.le_of_ble_eq_true rfl) (fun κ hC hR => ?_)
  rw [mo_sum]
  refine r_aload_n 0 hC d_mo_sum_0 rfl ?_
  refine r_iload_n 1 hC d_mo_sum_1 rfl ?_
  refine r_callV (o := 49) (rest := []) (stk1 := [.int (mo_isPort st a1)]) hC d_mo_sum_2 (c_mo_isPort G st a1) mw_mo_isPort mi_mo_isPort mz_mo_isPort ml_mo_147 rfl rfl rfl rfl rfl (Nat.le_of_ble_eq_true rfl) rfl ?_
  refine r_if_ne (tgt := 14) hC d_mo_sum_5 (by decide) (fun c_5 => ?_) (fun c_5 => ?_)
  ·
    refine r_iload_n 2 hC d_mo_sum_14 rfl ?_
    refine r_callS (rest := []) (stk1 := [.int (mo_isTick a2)]) hC d_mo_sum_15 (c_mo_isTick G st a2) mw_mo_isTick ms_mo_isTick ml_mo_182 rfl rfl rfl (Nat.le_of_ble_eq_true rfl) rfl ?_
    refine r_if_eq (tgt := 30) hC d_mo_sum_18 (by decide) (fun c_18 => ?_) (fun c_18 => ?_)
    ·
      refine r_sipush (v := (-10102)) hC d_mo_sum_30 (by decide) ?_
      exact r_iret hC hR d_mo_sum_33 rfl rfl
    ·
      refine r_aload_n 0 hC d_mo_sum_21 rfl ?_
      refine r_iload_n 1 hC d_mo_sum_22 rfl ?_
      refine r_iload_n 2 hC d_mo_sum_23 rfl ?_
      refine r_callV (o := 49) (rest := []) (stk1 := [.int (mo_sumAt st a1 a2)]) hC d_mo_sum_24 (c_mo_sumAt G st a1 a2 hI (mo_isPort_in hI c_5)) mw_mo_sumAt mi_mo_sumAt mz_mo_sumAt ml_mo_173 rfl rfl rfl rfl rfl (Nat.le_of_ble_eq_true rfl) rfl ?_
      refine r_goto (tgt := 33) hC d_mo_sum_27 (by decide) ?_
      exact r_iret hC hR d_mo_sum_33 rfl rfl
  ·
    refine r_sipush (v := (-10101)) hC d_mo_sum_8 (by decide) ?_
    refine r_goto (tgt := 33) hC d_mo_sum_11 (by decide) ?_
    exact r_iret hC hR d_mo_sum_33 rfl rfl
/-! TideTableModel.height(II)I -/
def mo_height (st : tt_St) (a1 : Int32) (a2 : Int32) : Int32 := (if (mo_isPort st a1) = 0 then (-10101) else (if (mo_isTick a2) = 0 then (-10102) else (mo_heightAt st a1 a2)))
set_option maxHeartbeats 4000000 in
set_option maxRecDepth 20000 in
theorem c_mo_height (G : tt_G) (st : tt_St) (a1 : Int32) (a2 : Int32) (hI : mo_ok st) : tt_C y_mo_height prog_7_method_35_code 3 (some .int) 6 141 G [.ref (tt_ad G 49), .int a1, .int a2] st (some (.int (mo_height st a1 a2))) st := by
  refine tt_enter (α := Int32) (mk := fun r => (some (.int r), st)) (T := (mo_height st a1 a2)) (by decide +kernel) (Nat.le_of_ble_eq_true rfl) (fun κ hC hR => ?_)
  rw [mo_height]
  refine r_aload_n 0 hC d_mo_height_0 rfl ?_
  refine r_iload_n 1 hC d_mo_height_1 rfl ?_
  refine r_callV (o := 49) (rest := []) (stk1 := [.int (mo_isPort st a1)]) hC d_mo_height_2 (c_mo_isPort G st a1) mw_mo_isPort mi_mo_isPort mz_mo_isPort ml_mo_147 rfl rfl rfl rfl rfl (Nat.le_of_ble_eq_true rfl) rfl ?_
  refine r_if_ne (tgt := 14) hC d_mo_height_5 (by decide) (fun c_5 => ?_) (fun c_5 => ?_)
  ·
    refine r_iload_n 2 hC d_mo_height_14 rfl ?_
    refine r_callS (rest := []) (stk1 := [.int (mo_isTick a2)]) hC d_mo_height_15 (c_mo_isTick G st a2) mw_mo_isTick ms_mo_isTick ml_mo_182 rfl rfl rfl (Nat.le_of_ble_eq_true rfl) rfl ?_
    refine r_if_eq (tgt := 30) hC d_mo_height_18 (by decide) (fun c_18 => ?_) (fun c_18 => ?_)
    ·
      refine r_sipush (v := (-10102)) hC d_mo_height_30 (by decide) ?_
      exact r_iret hC hR d_mo_height_33 rfl rfl
    ·
      refine r_aload_n 0 hC d_mo_height_21 rfl ?_
      refine r_iload_n 1 hC d_mo_height_22 rfl ?_
      refine r_iload_n 2 hC d_mo_height_23 rfl ?_
      refine r_callV (o := 49) (rest := []) (stk1 := [.int (mo_heightAt st a1 a2)]) hC d_mo_height_24 (c_mo_heightAt G st a1 a2 hI (mo_isPort_in hI c_5)) mw_mo_heightAt mi_mo_heightAt mz_mo_heightAt ml_mo_185 rfl rfl rfl rfl rfl (Nat.le_of_ble_eq_true rfl) rfl ?_
      refine r_goto (tgt := 33) hC d_mo_height_27 (by decide) ?_
      exact r_iret hC hR d_mo_height_33 rfl rfl
  ·
    refine r_sipush (v := (-10101)) hC d_mo_height_8 (by decide) ?_
    refine r_goto (tgt := 33) hC d_mo_height_11 (by decide) ?_
    exact r_iret hC hR d_mo_height_33 rfl rfl
/-! TideTableModel.then(II)I -/
def mo_then_l10 (st : tt_St) (a1 : Int32) (a2 : Int32) (x3 : Int32) : Nat → Nat → Int32
  | 0, j => 0
  | n + 1, j => (if (mo_heightAt st a1 (a2 + (nI j))) = x3 then (mo_then_l10 st a1 a2 x3 n (j + 1)) else ((mo_heightAt st a1 (a2 + (nI j))) - x3))
set_option maxHeartbeats 4000000 in
set_option maxRecDepth 20000 in
theorem l_mo_then_10 {G : tt_G} {κ : tt_X (Int32)} (hC : tt_Cx G κ prog_7_method_36_code "TideTableModel" 6 6 141) (st : tt_St) (a1 : Int32) (a2 : Int32) (x3 : Int32)  (hR : tt_Rt G κ (some .int) (fun r => (some (.int r), st))) (hI : mo_ok st) (hp : vp_in a1 4) : ∀ (n j : Nat), j + n = 145 → tt_V G κ (mo_then_l10 st a1 a2 x3 n j) st 10 [(0, .ref (tt_ad G 49)), (1, .int a1), (2, .int a2), (3, .int x3), (4, .int (nI j))] [] := by
  intro n
  induction n with
  | zero =>
    intro j hj
    rw [mo_then_l10]
    refine r_iload 4 hC d_mo_then_10 rfl ?_
    refine r_sipush (v := 144) hC d_mo_then_12 (by decide) ?_
    refine t_icmp_gt (tgt := 46) hC d_mo_then_15 (by decide) (nI_lt (a := 144) (by omega) (by omega)) ?_
    refine r_iconst (v := 0) hC d_mo_then_46 (by decide) ?_
    exact r_iret hC hR d_mo_then_47 rfl rfl
  | succ n ih =>
    intro j hj
    rw [mo_then_l10]
    refine r_iload 4 hC d_mo_then_10 rfl ?_
    refine r_sipush (v := 144) hC d_mo_then_12 (by decide) ?_
    refine f_icmp_gt (tgt := 46) hC d_mo_then_15 (by decide) (nI_nlt (a := 144) (b := j) (by omega) (by omega)) ?_
    refine r_aload_n 0 hC d_mo_then_18 rfl ?_
    refine r_iload_n 1 hC d_mo_then_19 rfl ?_
    refine r_iload_n 2 hC d_mo_then_20 rfl ?_
    refine r_iload 4 hC d_mo_then_21 rfl ?_
    refine r_iadd hC d_mo_then_23 ?_
    refine r_callV (o := 49) (rest := []) (stk1 := [.int (mo_heightAt st a1 (a2 + (nI j)))]) hC d_mo_then_24 (c_mo_heightAt G st a1 (a2 + (nI j)) hI hp) mw_mo_heightAt mi_mo_heightAt mz_mo_heightAt ml_mo_185 rfl rfl rfl rfl rfl (Nat.le_of_ble_eq_true rfl) rfl ?_
    refine r_istore [(5, .int (mo_heightAt st a1 (a2 + (nI j)))), (0, .ref (tt_ad G 49)), (1, .int a1), (2, .int a2), (3, .int x3), (4, .int (nI j))] hC d_mo_then_27 (by decide) rfl ?_
    refine r_iload 0 hC d_mo_then_29 rfl ?_
    refine r_iload_n 4 hC d_mo_then_31 rfl ?_
    refine r_icmp_eq (tgt := 40) hC d_mo_then_32 (by decide) (fun c_32 => ?_) (fun c_32 => ?_)
    ·
      refine r_iinc 5 (nI (j + 1)) [(4, .int (nI (j + 1))), (5, .int (mo_heightAt st a1 (a2 + (nI j)))), (0, .ref (tt_ad G 49)), (1, .int a1), (2, .int a2), (3, .int x3)] hC d_mo_then_40 rfl (by rw [nI_succ]; rfl) (by decide) rfl ?_
      refine r_goto (tgt := 10) hC d_mo_then_43 (by decide) ?_
      exact tt_cast [2, 3, 4, 5, 0] rfl rfl (ih (j + 1) (by omega))
    ·
      refine r_iload 0 hC d_mo_then_35 rfl ?_
      refine r_iload_n 4 hC d_mo_then_37 rfl ?_
      refine r_isub hC d_mo_then_38 ?_
      exact r_iret hC hR d_mo_then_39 rfl rfl
def mo_then (st : tt_St) (a1 : Int32) (a2 : Int32) : Int32 := (mo_then_l10 st a1 a2 (mo_heightAt st a1 a2) 144 1)
set_option maxHeartbeats 4000000 in
set_option maxRecDepth 20000 in
theorem c_mo_then (G : tt_G) (st : tt_St) (a1 : Int32) (a2 : Int32) (hI : mo_ok st) (hp : vp_in a1 4) : tt_C y_mo_then prog_7_method_36_code 6 (some .int) 6 141 G [.ref (tt_ad G 49), .int a1, .int a2] st (some (.int (mo_then st a1 a2))) st := by
  refine tt_enter (α := Int32) (mk := fun r => (some (.int r), st)) (T := (mo_then st a1 a2)) (by decide +kernel) (Nat.le_of_ble_eq_true rfl) (fun κ hC hR => ?_)
  rw [mo_then]
  refine r_aload_n 0 hC d_mo_then_0 rfl ?_
  refine r_iload_n 1 hC d_mo_then_1 rfl ?_
  refine r_iload_n 2 hC d_mo_then_2 rfl ?_
  refine r_callV (o := 49) (rest := []) (stk1 := [.int (mo_heightAt st a1 a2)]) hC d_mo_then_3 (c_mo_heightAt G st a1 a2 hI hp) mw_mo_heightAt mi_mo_heightAt mz_mo_heightAt ml_mo_185 rfl rfl rfl rfl rfl (Nat.le_of_ble_eq_true rfl) rfl ?_
  refine r_istore_n [(3, .int (mo_heightAt st a1 a2)), (0, .ref (tt_ad G 49)), (1, .int a1), (2, .int a2)] hC d_mo_then_6 rfl (by decide) rfl ?_
  refine r_iconst (v := 1) hC d_mo_then_7 (by decide) ?_
  refine r_istore [(4, .int 1), (3, .int (mo_heightAt st a1 a2)), (0, .ref (tt_ad G 49)), (1, .int a1), (2, .int a2)] hC d_mo_then_8 (by decide) rfl ?_
  exact tt_cast [2, 3, 4, 1, 0] rfl rfl (l_mo_then_10 hC st a1 a2 (mo_heightAt st a1 a2) hR hI hp 144 1  (by omega))
/-! TideTableModel.turnsAt(II)I -/
def mo_turnsAt (st : tt_St) (a1 : Int32) (a2 : Int32) : Int32 := (if ((mo_heightAt st a1 a2) - (mo_heightAt st a1 (a2 - 1))) = 0 then (-10001) else (if ((mo_heightAt st a1 a2) - (mo_heightAt st a1 (a2 - 1))) ≤ 0 then (if 0 ≤ ((mo_heightAt st a1 a2) - (mo_heightAt st a1 (a2 - 1))) then (-10001) else (if (mo_then st a1 a2) ≤ 0 then (-10001) else 0)) else (if 0 ≤ (mo_then st a1 a2) then (if 0 ≤ ((mo_heightAt st a1 a2) - (mo_heightAt st a1 (a2 - 1))) then (-10001) else (if (mo_then st a1 a2) ≤ 0 then (-10001) else 0)) else 1)))
set_option maxHeartbeats 4000000 in
set_option maxRecDepth 20000 in
theorem c_mo_turnsAt (G : tt_G) (st : tt_St) (a1 : Int32) (a2 : Int32) (hI : mo_ok st) (hp : vp_in a1 4) : tt_C y_mo_turnsAt prog_7_method_37_code 5 (some .int) 7 166 G [.ref (tt_ad G 49), .int a1, .int a2] st (some (.int (mo_turnsAt st a1 a2))) st := by
  refine tt_enter (α := Int32) (mk := fun r => (some (.int r), st)) (T := (mo_turnsAt st a1 a2)) (by decide +kernel) (Nat.le_of_ble_eq_true rfl) (fun κ hC hR => ?_)
  rw [mo_turnsAt]
  refine r_aload_n 0 hC d_mo_turnsAt_0 rfl ?_
  refine r_iload_n 1 hC d_mo_turnsAt_1 rfl ?_
  refine r_iload_n 2 hC d_mo_turnsAt_2 rfl ?_
  refine r_callV (o := 49) (rest := []) (stk1 := [.int (mo_heightAt st a1 a2)]) hC d_mo_turnsAt_3 (c_mo_heightAt G st a1 a2 hI hp) mw_mo_heightAt mi_mo_heightAt mz_mo_heightAt ml_mo_185 rfl rfl rfl rfl rfl (Nat.le_of_ble_eq_true rfl) rfl ?_
  refine r_aload_n 0 hC d_mo_turnsAt_6 rfl ?_
  refine r_iload_n 1 hC d_mo_turnsAt_7 rfl ?_
  refine r_iload_n 2 hC d_mo_turnsAt_8 rfl ?_
  refine r_iconst (v := 1) hC d_mo_turnsAt_9 (by decide) ?_
  refine r_isub hC d_mo_turnsAt_10 ?_
  refine r_callV (o := 49) (rest := [.int (mo_heightAt st a1 a2)]) (stk1 := [.int (mo_heightAt st a1 (a2 - 1)), .int (mo_heightAt st a1 a2)]) hC d_mo_turnsAt_11 (c_mo_heightAt G st a1 (a2 - 1) hI hp) mw_mo_heightAt mi_mo_heightAt mz_mo_heightAt ml_mo_185 rfl rfl rfl rfl rfl (Nat.le_of_ble_eq_true rfl) rfl ?_
  refine r_isub hC d_mo_turnsAt_14 ?_
  refine r_istore_n [(3, .int ((mo_heightAt st a1 a2) - (mo_heightAt st a1 (a2 - 1)))), (0, .ref (tt_ad G 49)), (1, .int a1), (2, .int a2)] hC d_mo_turnsAt_15 rfl (by decide) rfl ?_
  refine r_iload_n 0 hC d_mo_turnsAt_16 rfl ?_
  refine r_if_ne (tgt := 24) hC d_mo_turnsAt_17 (by decide) (fun c_17 => ?_) (fun c_17 => ?_)
  ·
    refine r_aload_n 1 hC d_mo_turnsAt_24 rfl ?_
    refine r_iload_n 2 hC d_mo_turnsAt_25 rfl ?_
    refine r_iload_n 3 hC d_mo_turnsAt_26 rfl ?_
    refine r_callV (o := 49) (rest := []) (stk1 := [.int (mo_then st a1 a2)]) hC d_mo_turnsAt_27 (c_mo_then G st a1 a2 hI hp) mw_mo_then mi_mo_then mz_mo_then ml_mo_188 rfl rfl rfl rfl rfl (Nat.le_of_ble_eq_true rfl) rfl ?_
    refine r_istore [(4, .int (mo_then st a1 a2)), (3, .int ((mo_heightAt st a1 a2) - (mo_heightAt st a1 (a2 - 1)))), (0, .ref (tt_ad G 49)), (1, .int a1), (2, .int a2)] hC d_mo_turnsAt_30 (by decide) rfl ?_
    refine r_iload_n 1 hC d_mo_turnsAt_32 rfl ?_
    refine r_if_le (tgt := 45) hC d_mo_turnsAt_33 (by decide) (fun c_33 => ?_) (fun c_33 => ?_)
    ·
      refine r_iload_n 1 hC d_mo_turnsAt_45 rfl ?_
      refine r_if_ge (tgt := 58) hC d_mo_turnsAt_46 (by decide) (fun c_46 => ?_) (fun c_46 => ?_)
      ·
        refine r_sipush (v := (-10001)) hC d_mo_turnsAt_58 (by decide) ?_
        exact r_iret hC hR d_mo_turnsAt_61 rfl rfl
      ·
        refine r_iload 0 hC d_mo_turnsAt_49 rfl ?_
        refine r_if_le (tgt := 58) hC d_mo_turnsAt_51 (by decide) (fun c_51 => ?_) (fun c_51 => ?_)
        ·
          refine r_sipush (v := (-10001)) hC d_mo_turnsAt_58 (by decide) ?_
          exact r_iret hC hR d_mo_turnsAt_61 rfl rfl
        ·
          refine r_iconst (v := 0) hC d_mo_turnsAt_54 (by decide) ?_
          refine r_goto (tgt := 61) hC d_mo_turnsAt_55 (by decide) ?_
          exact r_iret hC hR d_mo_turnsAt_61 rfl rfl
    ·
      refine r_iload 0 hC d_mo_turnsAt_36 rfl ?_
      refine r_if_ge (tgt := 45) hC d_mo_turnsAt_38 (by decide) (fun c_38 => ?_) (fun c_38 => ?_)
      ·
        refine r_iload_n 1 hC d_mo_turnsAt_45 rfl ?_
        refine r_if_ge (tgt := 58) hC d_mo_turnsAt_46 (by decide) (fun c_46 => ?_) (fun c_46 => ?_)
        ·
          refine r_sipush (v := (-10001)) hC d_mo_turnsAt_58 (by decide) ?_
          exact r_iret hC hR d_mo_turnsAt_61 rfl rfl
        ·
          refine r_iload 0 hC d_mo_turnsAt_49 rfl ?_
          refine r_if_le (tgt := 58) hC d_mo_turnsAt_51 (by decide) (fun c_51 => ?_) (fun c_51 => ?_)
          ·
            refine r_sipush (v := (-10001)) hC d_mo_turnsAt_58 (by decide) ?_
            exact r_iret hC hR d_mo_turnsAt_61 rfl rfl
          ·
            refine r_iconst (v := 0) hC d_mo_turnsAt_54 (by decide) ?_
            refine r_goto (tgt := 61) hC d_mo_turnsAt_55 (by decide) ?_
            exact r_iret hC hR d_mo_turnsAt_61 rfl rfl
      ·
        refine r_iconst (v := 1) hC d_mo_turnsAt_41 (by decide) ?_
        refine r_goto (tgt := 61) hC d_mo_turnsAt_42 (by decide) ?_
        exact r_iret hC hR d_mo_turnsAt_61 rfl rfl
  ·
    refine r_sipush (v := (-10001)) hC d_mo_turnsAt_20 (by decide) ?_
    exact r_iret hC hR d_mo_turnsAt_23 rfl rfl

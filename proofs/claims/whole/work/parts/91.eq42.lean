/-! the law's loop -/
section TLL
variable {α : Type} {G : tt_G} {κ : tt_X α} {T : α} {b L : Nat} {xs : Nat → Int32}
theorem lw_switch {st : tt_St} {i k : Nat} (hC : tt_Cx G κ code "TideTableLaw" 4 14 538) (hX : lw_X G (tt_xs κ) b L xs) (hL : L ≤ 3072) (hi : i + 6 ≤ L) (hk : k < 2147483647) (hr : rl k st st) (hg : ∀ st' : tt_St, rl (k + 1) st' st' → tt_V G κ T st' 1185 (lw_lv G b i) []) : ∀ j : Nat, j < 32 → tt_V G κ T st 33 (lw_lv G b i) [.int (nI j)] := by
  intro j hj
  match j, hj with
  | 0, _ => exact r_tabIn (off := 135) (tgt := 168) hC d_law_33 (by decide) (by decide) (by rfl) (by decide) (lw_k0 hC hX hL hi hk hr hg)
  | 1, _ => exact r_tabIn (off := 158) (tgt := 191) hC d_law_33 (by decide) (by decide) (by rfl) (by decide) (lw_k1 hC hX hL hi hk hr hg)
  | 2, _ => exact r_tabIn (off := 171) (tgt := 204) hC d_law_33 (by decide) (by decide) (by rfl) (by decide) (lw_k2 hC hX hL hi hk hr hg)
  | 3, _ => exact r_tabIn (off := 184) (tgt := 217) hC d_law_33 (by decide) (by decide) (by rfl) (by decide) (lw_k3 hC hX hL hi hk hr hg)
  | 4, _ => exact r_tabIn (off := 197) (tgt := 230) hC d_law_33 (by decide) (by decide) (by rfl) (by decide) (lw_k4 hC hX hL hi hk hr hg)
  | 5, _ => exact r_tabIn (off := 230) (tgt := 263) hC d_law_33 (by decide) (by decide) (by rfl) (by decide) (lw_k5 hC hX hL hi hk hr hg)
  | 6, _ => exact r_tabIn (off := 273) (tgt := 306) hC d_law_33 (by decide) (by decide) (by rfl) (by decide) (lw_k6 hC hX hL hi hk hr hg)
  | 7, _ => exact r_tabIn (off := 306) (tgt := 339) hC d_law_33 (by decide) (by decide) (by rfl) (by decide) (lw_k7 hC hX hL hi hk hr hg)
  | 8, _ => exact r_tabIn (off := 329) (tgt := 362) hC d_law_33 (by decide) (by decide) (by rfl) (by decide) (lw_k8 hC hX hL hi hk hr hg)
  | 9, _ => exact r_tabIn (off := 362) (tgt := 395) hC d_law_33 (by decide) (by decide) (by rfl) (by decide) (lw_k9 hC hX hL hi hk hr hg)
  | 10, _ => exact r_tabIn (off := 395) (tgt := 428) hC d_law_33 (by decide) (by decide) (by rfl) (by decide) (lw_k10 hC hX hL hi hk hr hg)
  | 11, _ => exact r_tabIn (off := 448) (tgt := 481) hC d_law_33 (by decide) (by decide) (by rfl) (by decide) (lw_k11 hC hX hL hi hk hr hg)
  | 12, _ => exact r_tabIn (off := 511) (tgt := 544) hC d_law_33 (by decide) (by decide) (by rfl) (by decide) (lw_k12 hC hX hL hi hk hr hg)
  | 13, _ => exact r_tabIn (off := 554) (tgt := 587) hC d_law_33 (by decide) (by decide) (by rfl) (by decide) (lw_k13 hC hX hL hi hk hr hg)
  | 14, _ => exact r_tabIn (off := 597) (tgt := 630) hC d_law_33 (by decide) (by decide) (by rfl) (by decide) (lw_k14 hC hX hL hi hk hr hg)
  | 15, _ => exact r_tabIn (off := 640) (tgt := 673) hC d_law_33 (by decide) (by decide) (by rfl) (by decide) (lw_k15 hC hX hL hi hk hr hg)
  | 16, _ => exact r_tabIn (off := 693) (tgt := 726) hC d_law_33 (by decide) (by decide) (by rfl) (by decide) (lw_k16 hC hX hL hi hk hr hg)
  | 17, _ => exact r_tabIn (off := 756) (tgt := 789) hC d_law_33 (by decide) (by decide) (by rfl) (by decide) (lw_k17 hC hX hL hi hk hr hg)
  | 18, _ => exact r_tabIn (off := 789) (tgt := 822) hC d_law_33 (by decide) (by decide) (by rfl) (by decide) (lw_k18 hC hX hL hi hk hr hg)
  | 19, _ => exact r_tabIn (off := 822) (tgt := 855) hC d_law_33 (by decide) (by decide) (by rfl) (by decide) (lw_k19 hC hX hL hi hk hr hg)
  | 20, _ => exact r_tabIn (off := 855) (tgt := 888) hC d_law_33 (by decide) (by decide) (by rfl) (by decide) (lw_k20 hC hX hL hi hk hr hg)
  | 21, _ => exact r_tabIn (off := 908) (tgt := 941) hC d_law_33 (by decide) (by decide) (by rfl) (by decide) (lw_k21 hC hX hL hi hk hr hg)
  | 22, _ => exact r_tabIn (off := 941) (tgt := 974) hC d_law_33 (by decide) (by decide) (by rfl) (by decide) (lw_k22 hC hX hL hi hk hr hg)
  | 23, _ => exact r_tabIn (off := 974) (tgt := 1007) hC d_law_33 (by decide) (by decide) (by rfl) (by decide) (lw_k23 hC hX hL hi hk hr hg)
  | 24, _ => exact r_tabIn (off := 1033) (tgt := 1066) hC d_law_33 (by decide) (by decide) (by rfl) (by decide) (lw_k24 hC hX hL hi hk hr hg)
  | 25, _ => exact r_tabIn (off := 1046) (tgt := 1079) hC d_law_33 (by decide) (by decide) (by rfl) (by decide) (lw_k25 hC hX hL hi hk hr hg)
  | 26, _ => exact r_tabIn (off := 1089) (tgt := 1122) hC d_law_33 (by decide) (by decide) (by rfl) (by decide) (lw_k26 hC hX hL hi hk hr hg)
  | 27, _ => exact r_tabIn (off := 1102) (tgt := 1135) hC d_law_33 (by decide) (by decide) (by rfl) (by decide) (lw_k27 hC hX hL hi hk hr hg)
  | 28, _ => exact r_tabIn (off := 1115) (tgt := 1148) hC d_law_33 (by decide) (by decide) (by rfl) (by decide) (lw_k28 hC hX hL hi hk hr hg)
  | 29, _ => exact r_tabIn (off := 1138) (tgt := 1171) hC d_law_33 (by decide) (by decide) (by rfl) (by decide) (lw_k29 hC hX hL hi hk hr hg)
  | 30, _ => exact r_tabOut (tgt := 1185) hC d_law_33 (by decide) (by decide) (hg st (hr.mono (by omega)))
  | 31, _ => exact r_tabOut (tgt := 1185) hC d_law_33 (by decide) (by decide) (hg st (hr.mono (by omega)))
  | q + 32, h => exact absurd h (by omega)
theorem lw_loop (hC : tt_Cx G κ code "TideTableLaw" 4 14 538) (hX : lw_X G (tt_xs κ) b L xs) (hL : L ≤ 3072) (hE : ∀ (st : tt_St) (i : Nat), tt_V G κ T st 1192 (lw_lv G b i) [.int 1]) : ∀ (n i k : Nat) (st : tt_St), L ≤ i + 6 * n → i ≤ L → k ≤ i → rl k st st → tt_V G κ T st 18 (lw_lv G b i) [] := by
  intro n
  induction n with
  | zero =>
    intro i k st h1 h2 h3 hr
    refine r_iload_n 0 hC d_law_18 rfl ?_
    refine r_aload_n 1 hC d_law_19 rfl ?_
    refine r_scl hC hX d_law_20 ?_
    refine r_bipush (v := 6) hC d_law_21 (by decide) ?_
    refine r_isub hC d_law_23 ?_
    have e6 : (6 : Int32).toInt = 6 := rfl
    have eL : (nI L).toInt = L := nI_toInt (by omega)
    have es : (nI L - 6).toInt = (L : Int) - 6 := by rw [tt_sub] <;> rw [eL, e6] <;> omega
    refine t_icmp_gt (tgt := 1191) hC d_law_24 (by decide) (by rw [tt_lt, es, nI_toInt (by omega)]; omega) ?_
    exact r_iconst (v := 1) hC d_law_1191 (by decide) (hE st i)
  | succ n ih =>
    intro i k st h1 h2 h3 hr
    refine r_iload_n 0 hC d_law_18 rfl ?_
    refine r_aload_n 1 hC d_law_19 rfl ?_
    refine r_scl hC hX d_law_20 ?_
    refine r_bipush (v := 6) hC d_law_21 (by decide) ?_
    refine r_isub hC d_law_23 ?_
    have e6 : (6 : Int32).toInt = 6 := rfl
    have eL : (nI L).toInt = L := nI_toInt (by omega)
    have es : (nI L - 6).toInt = (L : Int) - 6 := by rw [tt_sub] <;> rw [eL, e6] <;> omega
    by_cases q : i + 6 ≤ L
    · refine f_icmp_gt (tgt := 1191) hC d_law_24 (by decide) (by rw [tt_lt, es, nI_toInt (by omega)]; omega) ?_
      refine r_aload_n 1 hC d_law_27 rfl ?_
      refine r_iload_n 0 hC d_law_28 rfl ?_
      refine r_scr hC hX d_law_29 (vp_in_nI (by omega) (by omega)) ?_
      refine r_bipush (v := 31) hC d_law_30 (by decide) ?_
      refine r_iand hC d_law_32 ?_
      obtain ⟨j, hj, ej⟩ := lw_and (xs (nI i).toNatClampNeg)
      rw [ej]
      refine lw_switch hC hX hL q (by omega) hr (fun st' hr' => ?_) j hj
      refine r_iinc 0 (nI (i + 6)) [(3, .int (nI (i + 6))), (0, .ref b), (1, .ref (tt_ad G 0)), (2, .ref (tt_ad G 49))] hC d_law_1185 rfl (nI_add i 6) (by decide) rfl ?_
      refine r_goto (tgt := 18) hC d_law_1188 (by decide) ?_
      exact ih (i + 6) (k + 1) st' (by omega) (by omega) (by omega) hr'
    · refine t_icmp_gt (tgt := 1191) hC d_law_24 (by decide) (by rw [tt_lt, es, nI_toInt (by omega)]; omega) ?_
      exact r_iconst (v := 1) hC d_law_1191 (by decide) (hE st i)
end TLL

/-! the law's rows -/
def lw_X (G : tt_G) (s : State) (b L : Nat) (xs : Nat → Int32) : Prop := va_X b L xs s s.heap ∧ b < s.heap.size ∧ ¬ tt_Ad G b
def lw_lv (G : tt_G) (b i : Nat) : List (Nat × Value) := [(3, .int (nI i)), (0, .ref b), (1, .ref (tt_ad G 0)), (2, .ref (tt_ad G 49))]
section TL
variable {α : Type} {G : tt_G} {κ : tt_X α} {T : α} {st : tt_St} {pc : Nat} {lv : List (Nat × Value)} {rest : List Value} {own : String} {nL fr lo : Nat}
theorem r_scr {b L : Nat} {xs : Nat → Int32} {i : Int32} (hC : tt_Cx G κ code own nL fr lo) (hX : lw_X G (tt_xs κ) b L xs) (hd : decode code pc = .ok (.iaload, 1)) (hin : vp_in i L) (k : tt_V G κ T st (pc + 1) lv (.int (xs i.toNatClampNeg) :: rest)) : tt_V G κ T st pc lv (.int i :: .ref b :: rest) := by
  obtain ⟨hx, hb, hml, hnL, hown, hts, hK, hJ, hSx, q1, q2, q3, q4⟩ := hC; intro H locs ls hP hS hl
  exact va_sld hx hb hX.1 hX.2.1 hX.2.2 hS hin hd (k H locs ls hP hS hl)
theorem r_scl {b L : Nat} {xs : Nat → Int32} (hC : tt_Cx G κ code own nL fr lo) (hX : lw_X G (tt_xs κ) b L xs) (hd : decode code pc = .ok (.arraylength, 1)) (k : tt_V G κ T st (pc + 1) lv (.int (nI L) :: rest)) : tt_V G κ T st pc lv (.ref b :: rest) := by
  obtain ⟨hx, hb, hml, hnL, hown, hts, hK, hJ, hSx, q1, q2, q3, q4⟩ := hC; intro H locs ls hP hS hl
  exact va_slen hx hb hX.1 hX.2.1 hX.2.2 hS hd (k H locs ls hP hS hl)
theorem r_lcmp {x y : Int64} (hC : tt_Cx G κ code own nL fr lo) (hd : decode code pc = .ok (.lcmp, 1)) (k : tt_V G κ T st (pc + 1) lv (.int (lg_cmp x y) :: rest)) : tt_V G κ T st pc lv (.long y :: .long x :: rest) := by
  obtain ⟨hx, hb, hml, hnL, hown, hts, hK, hJ, hSx, q1, q2, q3, q4⟩ := hC; intro H locs ls hP hS hl
  exact W.lcmp hx hb hd (k H locs ls hP hS hl)
/-- an argument off the script -/
theorem r_arg {b L i : Nat} (c : Nat) {n : Int} {xs : Nat → Int32} (hC : tt_Cx G κ code own nL fr lo) (hX : lw_X G (tt_xs κ) b L xs) (hL : L ≤ 3072) (hi : i + 6 ≤ L) (hc : c < 6) (hv : Int32.ofInt n = nI c) (d0 : decode code pc = .ok (.aload_n 0, 1)) (d1 : decode code (pc + 1) = .ok (.iload_n 3, 1)) (d2 : decode code (pc + 2) = .ok (.iconst n, 1)) (d3 : decode code (pc + 3) = .ok (.iadd, 1)) (d4 : decode code (pc + 4) = .ok (.iaload, 1))
    (k : tt_V G κ T st (pc + 5) (lw_lv G b i) (.int (xs (i + c)) :: rest)) : tt_V G κ T st pc (lw_lv G b i) rest := by
  refine r_aload_n 1 hC d0 rfl ?_
  refine r_iload_n 0 hC d1 rfl ?_
  refine r_iconst hC d2 hv ?_
  refine r_iadd hC d3 ?_
  have e : nI i + nI c = nI (i + c) := nI_add i c
  rw [e]
  refine r_scr hC hX d4 (vp_in_nI (by omega) (by omega)) ?_
  rw [nI_clamp (by omega)]
  exact k
end TL
theorem lw_and (x : Int32) : ∃ j, j < 32 ∧ x &&& 31 = nI j := by
  refine ⟨x.toBitVec.toNat &&& 31, Nat.lt_of_le_of_lt Nat.and_le_right (by decide), ?_⟩
  apply Int32.toBitVec_inj.mp
  apply BitVec.eq_of_toNat_eq
  have h31 : x.toBitVec.toNat &&& 31 ≤ 31 := Nat.and_le_right
  show (x &&& 31).toBitVec.toNat = (Int32.ofNat (x.toBitVec.toNat &&& 31)).toBitVec.toNat
  rw [Int32.toBitVec_and, BitVec.toNat_and, Int32.toBitVec_ofNat', BitVec.toNat_ofNat, Nat.mod_eq_of_lt (Nat.lt_of_le_of_lt h31 (by decide))]
  rfl
theorem lw_cmp (x : Int64) : lg_cmp x x = 0 := by
  unfold lg_cmp
  simp
/-! both calls, one behind the other -/
theorem lw_letter {k : Nat} {st : tt_St} (h : rl k st st) (hk : k < 2147483647) (a : Int32) : (tb_letter st a).1 = (mo_letter (tb_letter st a).2 a).1 ∧ rl k st (tb_letter st a).2 ∧ rl (k + 1) (mo_letter (tb_letter st a).2 a).2 (mo_letter (tb_letter st a).2 a).2 := by
  have h1 := h.kcs (kc_letter (a := a) (kc_rfl _))
  obtain ⟨e, r⟩ := eq_letter_c h1 a
  exact ⟨e, h1, (r.kms (km_mo_letter (km_rfl _))).mono (by omega)⟩
theorem lw_blank {k : Nat} {st : tt_St} (h : rl k st st) (hk : k < 2147483647) : (tb_blank st).1 = (mo_blank (tb_blank st).2).1 ∧ rl k st (tb_blank st).2 ∧ rl (k + 1) (mo_blank (tb_blank st).2).2 (mo_blank (tb_blank st).2).2 := by
  have h1 := h.kcs (kc_blank (kc_rfl _))
  obtain ⟨e, r⟩ := eq_blank_c h1
  exact ⟨e, h1, (r.kms (km_mo_blank (km_rfl _))).mono (by omega)⟩
theorem lw_fault {k : Nat} {st : tt_St} (h : rl k st st) (hk : k < 2147483647) : (tb_fault st).1 = (mo_fault (tb_fault st).2).1 ∧ rl k st (tb_fault st).2 ∧ rl (k + 1) (mo_fault (tb_fault st).2).2 (mo_fault (tb_fault st).2).2 := by
  have h1 := h.kcs (kc_fault (kc_rfl _))
  obtain ⟨e, r⟩ := eq_fault_c h1
  exact ⟨e, h1, (r.kms (km_mo_fault (km_rfl _))).mono (by omega)⟩
theorem lw_ports {k : Nat} {st : tt_St} (h : rl k st st) (hk : k < 2147483647) : (tb_ports st).1 = (mo_ports (tb_ports st).2).1 ∧ rl k st (tb_ports st).2 ∧ rl (k + 1) (mo_ports (tb_ports st).2).2 (mo_ports (tb_ports st).2).2 := by
  have h1 := h.kcs (kc_ports (kc_rfl _))
  obtain ⟨e, r⟩ := eq_ports_c h1 hk
  exact ⟨e, h1, (r.kms (km_mo_ports (km_rfl _)))⟩
theorem lw_mean {k : Nat} {st : tt_St} (h : rl k st st) (hk : k < 2147483647) (a b : Int32) : (tb_mean st a b).1 = (mo_mean (tb_mean st a b).2 a b).1 ∧ rl k st (tb_mean st a b).2 ∧ rl (k + 1) (mo_mean (tb_mean st a b).2 a b).2 (mo_mean (tb_mean st a b).2 a b).2 := by
  have h1 := h.kcs (h.kc_mean a b)
  obtain ⟨e, r⟩ := eq_mean_c h1 a b
  exact ⟨e, h1, (r.kms (km_mo_mean (km_rfl _))).mono (by omega)⟩
theorem lw_mark {k : Nat} {st : tt_St} (h : rl k st st) (hk : k < 2147483647) (a b : Int32) : (tb_mark st a b).1 = (mo_mark (tb_mark st a b).2 a b).1 ∧ rl k st (tb_mark st a b).2 ∧ rl (k + 1) (mo_mark (tb_mark st a b).2 a b).2 (mo_mark (tb_mark st a b).2 a b).2 := by
  have h1 := h.kcs (h.kc_mark a b)
  obtain ⟨e, r⟩ := eq_mark_c h1 a b
  exact ⟨e, h1, (r.kms (km_mo_mark (km_rfl _))).mono (by omega)⟩
theorem lw_ratio {k : Nat} {st : tt_St} (h : rl k st st) (hk : k < 2147483647) (a b : Int32) : (tb_ratio st a b).1 = (mo_ratio (tb_ratio st a b).2 a b).1 ∧ rl k st (tb_ratio st a b).2 ∧ rl (k + 1) (mo_ratio (tb_ratio st a b).2 a b).2 (mo_ratio (tb_ratio st a b).2 a b).2 := by
  have h1 := h.kcs (h.kc_ratio a b)
  obtain ⟨e, r⟩ := eq_ratio_c h1 a b
  exact ⟨e, h1, (r.kms (km_mo_ratio (km_rfl _))).mono (by omega)⟩
theorem lw_add {k : Nat} {st : tt_St} (h : rl k st st) (hk : k < 2147483647) (a b c d : Int32) : (tb_add st a b c d).1 = (mo_add (tb_add st a b c d).2 a b c d).1 ∧ rl k st (tb_add st a b c d).2 ∧ rl (k + 1) (mo_add (tb_add st a b c d).2 a b c d).2 (mo_add (tb_add st a b c d).2 a b c d).2 := by
  have h1 := h.kcs (h.kc_add a b c d)
  obtain ⟨e, r⟩ := eq_add_c h1 a b c d
  exact ⟨e, h1, (r.kms (km_mo_add (km_rfl _))).mono (by omega)⟩
theorem lw_take {k : Nat} {st : tt_St} (h : rl k st st) (hk : k < 2147483647) (a b : Int32) : (tb_take st a b).1 = (mo_take (tb_take st a b).2 a b).1 ∧ rl k st (tb_take st a b).2 ∧ rl (k + 1) (mo_take (tb_take st a b).2 a b).2 (mo_take (tb_take st a b).2 a b).2 := by
  have h1 := h.kcs (h.kc_take a b)
  obtain ⟨e, r⟩ := eq_take_c h1 a b
  exact ⟨e, h1, (r.kms (km_mo_take (km_rfl _))).mono (by omega)⟩
theorem lw_be {k : Nat} {st : tt_St} (h : rl k st st) (hk : k < 2147483647) (a b : Int32) : (tb_be st a b).1 = (mo_be (tb_be st a b).2 a b).1 ∧ rl k st (tb_be st a b).2 ∧ rl (k + 1) (mo_be (tb_be st a b).2 a b).2 (mo_be (tb_be st a b).2 a b).2 := by
  have h1 := h.kcs (h.kc_be a b)
  obtain ⟨e, r⟩ := eq_be_c h1 a b
  exact ⟨e, h1, (r.kms (km_mo_be (km_rfl _))).mono (by omega)⟩
theorem lw_see {k : Nat} {st : tt_St} (h : rl k st st) (hk : k < 2147483647) (a b c : Int32) : (tb_see st a b c).1 = (mo_see (tb_see st a b c).2 a b c).1 ∧ rl k st (tb_see st a b c).2 ∧ rl (k + 1) (mo_see (tb_see st a b c).2 a b c).2 (mo_see (tb_see st a b c).2 a b c).2 := by
  have h1 := h.kcs (h.kc_see a b c)
  obtain ⟨e, r⟩ := eq_see_c h1 a b c
  exact ⟨e, h1, (r.kms (km_mo_see (km_rfl _))).mono (by omega)⟩
theorem lw_forget {k : Nat} {st : tt_St} (h : rl k st st) (hk : k < 2147483647) : (tb_forget st).1 = (mo_forget (tb_forget st).2).1 ∧ rl k st (tb_forget st).2 ∧ rl (k + 1) (mo_forget (tb_forget st).2).2 (mo_forget (tb_forget st).2).2 := by
  have h1 := h.kcs (h.kc_forget)
  obtain ⟨e, r⟩ := eq_forget_c h1
  exact ⟨e, h1, (r.kms (km_mo_forget (km_rfl _))).mono (by omega)⟩
theorem lw_image {k : Nat} {st : tt_St} (h : rl k st st) (hk : k < 2147483647) : (tb_image st).1 = (mo_image (tb_image st).2).1 ∧ rl k st (tb_image st).2 ∧ rl (k + 1) (mo_image (tb_image st).2).2 (mo_image (tb_image st).2).2 := by
  have h1 := h.kcs (h.kc_image)
  obtain ⟨e, r⟩ := eq_image_c h1
  exact ⟨e, h1, (r.kms (km_mo_image (km_rfl _))).mono (by omega)⟩
theorem lw_restore {k : Nat} {st : tt_St} (h : rl k st st) (hk : k < 2147483647) : (tb_restore st).1 = (mo_restore (tb_restore st).2).1 ∧ rl k st (tb_restore st).2 ∧ rl (k + 1) (mo_restore (tb_restore st).2).2 (mo_restore (tb_restore st).2).2 := by
  have h1 := h.kcs (h.kc_restore)
  obtain ⟨e, r⟩ := eq_restore_c h1
  exact ⟨e, h1, (r.kms (km_mo_restore (km_rfl _))).mono (by omega)⟩
theorem lw_tide {k : Nat} {st : tt_St} (h : rl k st st) (hk : k < 2147483647) (a b c d : Int32) : (tb_tide st a b c d).1 = mo_tide (tb_tide st a b c d).2 a b c d ∧ rl k st (tb_tide st a b c d).2 ∧ rl (k + 1) (tb_tide st a b c d).2 (tb_tide st a b c d).2 := by
  have h1 := h.kcs (kc_tide (a := a) (b := b) (c := c) (d := d) (kc_rfl st))
  obtain ⟨e, r⟩ := eq_tide_c h1 a b c d
  exact ⟨e, h1, r.mono (by omega)⟩
theorem lw_gate {k : Nat} {st : tt_St} (h : rl k st st) (hk : k < 2147483647) (a b c d e : Int32) : (tb_gate st a b c d e).1 = mo_gate (tb_gate st a b c d e).2 a b c d e ∧ rl k st (tb_gate st a b c d e).2 ∧ rl (k + 1) (tb_gate st a b c d e).2 (tb_gate st a b c d e).2 := by
  have h1 := h.kcs (kc_gate (a := a) (b := b) (c := c) (d := d) (e := e) (kc_rfl st))
  obtain ⟨e, r⟩ := eq_gate_c h1 a b c d e
  exact ⟨e, h1, r.mono (by omega)⟩
theorem lw_dry {k : Nat} {st : tt_St} (h : rl k st st) (hk : k < 2147483647) (a b c : Int32) : (tb_dry st a b c).1 = mo_dry (tb_dry st a b c).2 a b c ∧ rl k st (tb_dry st a b c).2 ∧ rl (k + 1) (tb_dry st a b c).2 (tb_dry st a b c).2 := by
  have h1 := h.kcs (kc_dry (a := a) (b := b) (c := c) (kc_rfl st))
  obtain ⟨e, r⟩ := eq_dry_c h1 a b c
  exact ⟨e, h1, r.mono (by omega)⟩
theorem lw_slack {k : Nat} {st : tt_St} (h : rl k st st) (hk : k < 2147483647) (a b c : Int32) : (tb_slack st a b c).1 = mo_slack (tb_slack st a b c).2 a b c ∧ rl k st (tb_slack st a b c).2 ∧ rl (k + 1) (tb_slack st a b c).2 (tb_slack st a b c).2 := by
  have h1 := h.kcs (kc_slack (a := a) (b := b) (c := c) (kc_rfl st))
  obtain ⟨e, r⟩ := eq_slack_c h1 a b c
  exact ⟨e, h1, r.mono (by omega)⟩
theorem lw_trip {k : Nat} {st : tt_St} (h : rl k st st) (hk : k < 2147483647) (a b c d : Int32) : (tb_trip st a b c d).1 = mo_trip (tb_trip st a b c d).2 a b c d ∧ rl k st (tb_trip st a b c d).2 ∧ rl (k + 1) (tb_trip st a b c d).2 (tb_trip st a b c d).2 := by
  have h1 := h.kcs (kc_trip (a := a) (b := b) (c := c) (d := d) (kc_rfl st))
  obtain ⟨e, r⟩ := eq_trip_c h1 a b c d
  exact ⟨e, h1, r.mono (by omega)⟩
theorem lw_leave {k : Nat} {st : tt_St} (h : rl k st st) (hk : k < 2147483647) (a b c d e : Int32) : (tb_leave st a b c d e).1 = mo_leave (tb_leave st a b c d e).2 a b c d e ∧ rl k st (tb_leave st a b c d e).2 ∧ rl (k + 1) (tb_leave st a b c d e).2 (tb_leave st a b c d e).2 := by
  have h1 := h.kcs (kc_leave (a := a) (b := b) (c := c) (d := d) (e := e) (kc_rfl st))
  obtain ⟨e, r⟩ := eq_leave_c h1 a b c d e
  exact ⟨e, h1, r.mono (by omega)⟩
theorem lw_drawn {k : Nat} {st : tt_St} (h : rl k st st) (hk : k < 2147483647) (a b c : Int32) : tb_drawn st a b c = (mo_drawn st a b c).1 ∧ rl (k + 1) (mo_drawn st a b c).2 (mo_drawn st a b c).2 := by
  obtain ⟨e, r⟩ := eq_drawn_c h a b c
  exact ⟨e, (r.kms (km_mo_drawn (km_rfl _))).mono (by omega)⟩
theorem lw_digest {k : Nat} {st : tt_St} (h : rl k st st) (hk : k < 2147483647) : tb_digest st = (mo_digest st).1 ∧ rl (k + 1) (mo_digest st).2 (mo_digest st).2 := by
  obtain ⟨e, r⟩ := eq_digest_c h
  exact ⟨e, (r.kms (km_mo_digest (km_rfl _))).mono (by omega)⟩
theorem lw_port {k : Nat} {st : tt_St} (h : rl k st st) (hk : k < 2147483647) (a b : Int32) : tb_port st a b = mo_port st a b ∧ rl (k + 1) st st := ⟨eq_port_c h a b, h.mono (by omega)⟩
theorem lw_wave {k : Nat} {st : tt_St} (h : rl k st st) (hk : k < 2147483647) (a b c : Int32) : tb_wave st a b c = mo_wave st a b c ∧ rl (k + 1) st st := ⟨eq_wave_c h a b c, h.mono (by omega)⟩
theorem lw_as {k : Nat} {st : tt_St} (h : rl k st st) (hk : k < 2147483647) (a b : Int32) : tb_as st a b = mo_as st a b ∧ rl (k + 1) st st := ⟨eq_as_c h a b, h.mono (by omega)⟩
theorem lw_round {k : Nat} {st : tt_St} (h : rl k st st) (hk : k < 2147483647) (a : Int32) : tb_round a = mo_round st a ∧ rl (k + 1) st st := ⟨eq_round_c h a, h.mono (by omega)⟩
theorem lw_sum {k : Nat} {st : tt_St} (h : rl k st st) (hk : k < 2147483647) (a b : Int32) : tb_sum st a b = mo_sum st a b ∧ rl (k + 1) st st := ⟨eq_sum_c h a b, h.mono (by omega)⟩
theorem lw_height {k : Nat} {st : tt_St} (h : rl k st st) (hk : k < 2147483647) (a b : Int32) : tb_height st a b = mo_height st a b ∧ rl (k + 1) st st := ⟨eq_height_c h a b, h.mono (by omega)⟩
theorem lw_stream {k : Nat} {st : tt_St} (h : rl k st st) (hk : k < 2147483647) (a b c : Int32) : tb_stream st a b c = mo_stream st a b c ∧ rl (k + 1) st st := ⟨eq_stream_c h a b c, h.mono (by omega)⟩
theorem lw_count {k : Nat} {st : tt_St} (h : rl k st st) (hk : k < 2147483647) (a : Int32) : tb_count st a = mo_count st a ∧ rl (k + 1) st st := ⟨eq_count_c h a, h.mono (by omega)⟩

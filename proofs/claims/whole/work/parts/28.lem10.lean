section TS
variable {α : Type} {G : tt_G} {κ : tt_X α} {T : α} {st : tt_St} {pc : Nat} {lv : List (Nat × Value)} {rest : List Value} {cc : ByteArray} {own : String} {nL fr lo : Nat}
theorem r_ldcS (hC : tt_Cx G κ cc "TideTable$Page" nL fr lo) (hd : decode cc pc = .ok (.ldc 44, 2)) (k : tt_V G κ T st (pc + 2) lv (.ref (tt_sa G 3) :: rest)) : tt_V G κ T st pc lv rest := by
  obtain ⟨hx, hb, hml, hnL, hown, hts, hK, hJ, hSx, q1, q2, q3, q4⟩ := hC; intro H locs ls hP hS hl
  exact va_ldcS hx hb hown hSx.2.2.2.1 hd (k H locs ls hP hS hl)
theorem r_getSv {index : Nat} (hC : tt_Cx G κ cc own nL fr lo) (hd : decode cc pc = .ok (.getfield index, 3)) (hw : Cond.fieldLink own index "java/lang/String" "value" "[B" ∈ tt_good) (k : tt_V G κ T st (pc + 3) lv (.ref (tt_sa G 4) :: rest)) : tt_V G κ T st pc lv (.ref (tt_sa G 3) :: rest) := by
  obtain ⟨hx, hb, hml, hnL, hown, hts, hK, hJ, hSx, q1, q2, q3, q4⟩ := hC; intro H locs ls hP hS hl
  exact vk_getf hx hb (hSx.2.2.2.2.1 0 (by decide)).2.2.1 hS hown (hts _ hw) (fun _ h => h) hd (k H locs ls hP hS hl)
theorem r_getSc {index : Nat} (hC : tt_Cx G κ cc own nL fr lo) (hd : decode cc pc = .ok (.getfield index, 3)) (hw : Cond.fieldLink own index "java/lang/String" "coder" "B" ∈ tt_good) (k : tt_V G κ T st (pc + 3) lv (.int 0 :: rest)) : tt_V G κ T st pc lv (.ref (tt_sa G 3) :: rest) := by
  obtain ⟨hx, hb, hml, hnL, hown, hts, hK, hJ, hSx, q1, q2, q3, q4⟩ := hC; intro H locs ls hP hS hl
  exact vk_getf hx hb (hSx.2.2.2.2.1 0 (by decide)).2.1 hS hown (hts _ hw) (fun _ h => h) hd (k H locs ls hP hS hl)
theorem r_getsC {index : Nat} (hC : tt_Cx G κ cc own nL fr lo) (hd : decode cc pc = .ok (.getstatic index, 3)) (hw : Cond.fieldLink own index "java/lang/String" "COMPACT_STRINGS" "Z" ∈ tt_good) (k : tt_V G κ T st (pc + 3) lv (.int 1 :: rest)) : tt_V G κ T st pc lv rest := by
  obtain ⟨hx, hb, hml, hnL, hown, hts, hK, hJ, hSx, q1, q2, q3, q4⟩ := hC; intro H locs ls hP hS hl
  exact va_gets hx hb hSx.2.1 hS hown (hts _ hw) (fun _ h => h) hd (k H locs ls hP hS hl)
theorem r_sbald {i : Int32} (hC : tt_Cx G κ cc own nL fr lo) (hd : decode cc pc = .ok (.baload, 1)) (hi : vp_in i 5) (k : tt_V G κ T st (pc + 1) lv (.int (tt_kv i.toNatClampNeg) :: rest)) : tt_V G κ T st pc lv (.int i :: .ref (tt_sa G 4) :: rest) := by
  obtain ⟨hx, hb, hml, hnL, hown, hts, hK, hJ, hSx, q1, q2, q3, q4⟩ := hC; intro H locs ls hP hS hl
  exact va_tb hx hb (hSx.2.2.2.2.1 0 (by decide)).2.2.2 hS hi rfl hd (k H locs ls hP hS hl)
theorem r_slen (hC : tt_Cx G κ cc own nL fr lo) (hd : decode cc pc = .ok (.arraylength, 1)) (k : tt_V G κ T st (pc + 1) lv (.int 5 :: rest)) : tt_V G κ T st pc lv (.ref (tt_sa G 4) :: rest) := by
  obtain ⟨hx, hb, hml, hnL, hown, hts, hK, hJ, hSx, q1, q2, q3, q4⟩ := hC; intro H locs ls hP hS hl
  exact va_tlen hx hb (hSx.2.2.2.2.1 0 (by decide)).2.2.2 hS (by decide) hd (k H locs ls hP hS hl)
theorem r_callVS {st' : tt_St} {av stk stk1 : List Value} {cc' : ByteArray} {y : MethodName} {nL' fr' lo' n index : Nat} {ret' : Option FieldType} {rv : Option Value}
    (hC : tt_Cx G κ cc own nL fr lo) (hd : decode cc pc = .ok (.invokevirtual index, 3)) (hM : tt_C y cc' nL' ret' fr' lo' G (.ref (tt_sa G 3) :: av) st rv st') (hw : tt_Mw y cc' nL' ret' n) (hi : Cond.instanceMethod y ∈ tt_good) (hse : Cond.selects "java/lang/String" y y ∈ tt_good) (hm : Cond.methodLink own index y ∈ tt_good) (hn : av.length = n) (hk : av.reverse ++ .ref (tt_sa G 3) :: rest = stk) (hroom : (Nat.ble (fr' + 1) fr && Nat.ble (8 + (nL' + 11) + lo') lo) = true) (hcat : (rest.map fun v => v.category).sum ≤ 8) (hk1 : rv.toList ++ rest = stk1)
    (k : tt_V G κ T st' (pc + 3) lv stk1) : tt_V G κ T st pc lv stk := by
  obtain ⟨hx, hb, hml, hnL, hown, hts, hK, hJ, hSx, q1, q2, q3, q4⟩ := hC
  rw [Bool.and_eq_true] at hroom
  have hroom1 := Nat.le_of_ble_eq_true hroom.1
  have hroom2 := Nat.le_of_ble_eq_true hroom.2
  intro H locs ls hP hS hl
  refine tt_go (va_runV (As := av) (rest := rest) (C := "java/lang/String") ⟨hx, hb, hml, hown, hts⟩ (hM (tt_xl κ)) ⟨callB_of n hts (tt_goodIn hw.1) rfl rfl rfl (hts _ hw.2.1) (hts _ hm) hw.2.2 ⟨Nat.le_trans hroom1 q1, Nat.le_trans hroom2 q2⟩, hts _ hi, hts _ hse⟩ ⟨tt_blind, vk_recv (i := 0) hSx.2.2.2.2 (by decide) hS, fun U hU hW => ⟨rfl, by rw [hU]; exact hP, va_K.moved hW.alike hK, hSx.go hS hU hW, hJ⟩⟩ rfl hn (by rw [← hnL]; exact hl.1) hk.symm (lv_room hcat) hd ⟨q3, q4⟩) hS hl hk1 k
end TS

section TR
variable {α : Type} {G : tt_G} {κ : tt_X α} {T : α} {st : tt_St} {pc : Nat} {lv : List (Nat × Value)} {rest : List Value} {cc : ByteArray} {own : String} {nL fr lo : Nat}
theorem r_iconst {n : Int} {v : Int32} (hC : tt_Cx G κ cc own nL fr lo) (hd : decode cc pc = .ok (.iconst n, 1)) (hv : Int32.ofInt n = v) (k : tt_V G κ T st (pc + 1) lv (.int v :: rest)) : tt_V G κ T st pc lv (rest) := by
  obtain ⟨hx, hb, hml, hnL, hown, hts, hK, hJ, hSx, q1, q2, q3, q4⟩ := hC; intro H locs ls hP hS hl
  exact lv_iconst hx hb hd hv (k H locs ls hP hS hl)
theorem r_bipush {n : Int} {v : Int32} (hC : tt_Cx G κ cc own nL fr lo) (hd : decode cc pc = .ok (.bipush n, 2)) (hv : (Int8.ofInt n).toInt32 = v) (k : tt_V G κ T st (pc + 2) lv (.int v :: rest)) : tt_V G κ T st pc lv (rest) := by
  obtain ⟨hx, hb, hml, hnL, hown, hts, hK, hJ, hSx, q1, q2, q3, q4⟩ := hC; intro H locs ls hP hS hl
  exact lv_bipush hx hb hd hv (k H locs ls hP hS hl)
theorem r_sipush {n : Int} {v : Int32} (hC : tt_Cx G κ cc own nL fr lo) (hd : decode cc pc = .ok (.sipush n, 3)) (hv : (Int16.ofInt n).toInt32 = v) (k : tt_V G κ T st (pc + 3) lv (.int v :: rest)) : tt_V G κ T st pc lv (rest) := by
  obtain ⟨hx, hb, hml, hnL, hown, hts, hK, hJ, hSx, q1, q2, q3, q4⟩ := hC; intro H locs ls hP hS hl
  exact lv_sipush hx hb hd hv (k H locs ls hP hS hl)
theorem r_iadd {x y : Int32} (hC : tt_Cx G κ cc own nL fr lo) (hd : decode cc pc = .ok (.iadd, 1)) (k : tt_V G κ T st (pc + 1) lv (.int (x + y) :: rest)) : tt_V G κ T st pc lv (.int y :: .int x :: rest) := by
  obtain ⟨hx, hb, hml, hnL, hown, hts, hK, hJ, hSx, q1, q2, q3, q4⟩ := hC; intro H locs ls hP hS hl
  exact lv_iadd hx hb hd (k H locs ls hP hS hl)
theorem r_isub {x y : Int32} (hC : tt_Cx G κ cc own nL fr lo) (hd : decode cc pc = .ok (.isub, 1)) (k : tt_V G κ T st (pc + 1) lv (.int (x - y) :: rest)) : tt_V G κ T st pc lv (.int y :: .int x :: rest) := by
  obtain ⟨hx, hb, hml, hnL, hown, hts, hK, hJ, hSx, q1, q2, q3, q4⟩ := hC; intro H locs ls hP hS hl
  exact lv_isub hx hb hd (k H locs ls hP hS hl)
theorem r_imul {x y : Int32} (hC : tt_Cx G κ cc own nL fr lo) (hd : decode cc pc = .ok (.imul, 1)) (k : tt_V G κ T st (pc + 1) lv (.int (x * y) :: rest)) : tt_V G κ T st pc lv (.int y :: .int x :: rest) := by
  obtain ⟨hx, hb, hml, hnL, hown, hts, hK, hJ, hSx, q1, q2, q3, q4⟩ := hC; intro H locs ls hP hS hl
  exact lv_imul hx hb hd (k H locs ls hP hS hl)
theorem r_iand {x y : Int32} (hC : tt_Cx G κ cc own nL fr lo) (hd : decode cc pc = .ok (.iand, 1)) (k : tt_V G κ T st (pc + 1) lv (.int (x &&& y) :: rest)) : tt_V G κ T st pc lv (.int y :: .int x :: rest) := by
  obtain ⟨hx, hb, hml, hnL, hown, hts, hK, hJ, hSx, q1, q2, q3, q4⟩ := hC; intro H locs ls hP hS hl
  exact lv_iand hx hb hd (k H locs ls hP hS hl)
theorem r_ior {x y : Int32} (hC : tt_Cx G κ cc own nL fr lo) (hd : decode cc pc = .ok (.ior, 1)) (k : tt_V G κ T st (pc + 1) lv (.int (x ||| y) :: rest)) : tt_V G κ T st pc lv (.int y :: .int x :: rest) := by
  obtain ⟨hx, hb, hml, hnL, hown, hts, hK, hJ, hSx, q1, q2, q3, q4⟩ := hC; intro H locs ls hP hS hl
  exact lv_ior hx hb hd (k H locs ls hP hS hl)
theorem r_ixor {x y : Int32} (hC : tt_Cx G κ cc own nL fr lo) (hd : decode cc pc = .ok (.ixor, 1)) (k : tt_V G κ T st (pc + 1) lv (.int (x ^^^ y) :: rest)) : tt_V G κ T st pc lv (.int y :: .int x :: rest) := by
  obtain ⟨hx, hb, hml, hnL, hown, hts, hK, hJ, hSx, q1, q2, q3, q4⟩ := hC; intro H locs ls hP hS hl
  exact lv_ixor hx hb hd (k H locs ls hP hS hl)
theorem r_ineg {x : Int32} (hC : tt_Cx G κ cc own nL fr lo) (hd : decode cc pc = .ok (.ineg, 1)) (k : tt_V G κ T st (pc + 1) lv (.int (-x) :: rest)) : tt_V G κ T st pc lv (.int x :: rest) := by
  obtain ⟨hx, hb, hml, hnL, hown, hts, hK, hJ, hSx, q1, q2, q3, q4⟩ := hC; intro H locs ls hP hS hl
  exact lv_ineg hx hb hd (k H locs ls hP hS hl)
theorem r_ishl {x y : Int32} (hC : tt_Cx G κ cc own nL fr lo) (hd : decode cc pc = .ok (.ishl, 1)) (k : tt_V G κ T st (pc + 1) lv (.int (x <<< (y &&& 31)) :: rest)) : tt_V G κ T st pc lv (.int y :: .int x :: rest) := by
  obtain ⟨hx, hb, hml, hnL, hown, hts, hK, hJ, hSx, q1, q2, q3, q4⟩ := hC; intro H locs ls hP hS hl
  exact lv_ishl hx hb hd (k H locs ls hP hS hl)
theorem r_ishr {x y : Int32} (hC : tt_Cx G κ cc own nL fr lo) (hd : decode cc pc = .ok (.ishr, 1)) (k : tt_V G κ T st (pc + 1) lv (.int (x >>> (y &&& 31)) :: rest)) : tt_V G κ T st pc lv (.int y :: .int x :: rest) := by
  obtain ⟨hx, hb, hml, hnL, hown, hts, hK, hJ, hSx, q1, q2, q3, q4⟩ := hC; intro H locs ls hP hS hl
  exact lv_ishr hx hb hd (k H locs ls hP hS hl)
theorem r_iushr {x y : Int32} (hC : tt_Cx G κ cc own nL fr lo) (hd : decode cc pc = .ok (.iushr, 1)) (k : tt_V G κ T st (pc + 1) lv (.int ((x.toUInt32 >>> (y.toUInt32 &&& Int32.toUInt32 31)).toInt32) :: rest)) : tt_V G κ T st pc lv (.int y :: .int x :: rest) := by
  obtain ⟨hx, hb, hml, hnL, hown, hts, hK, hJ, hSx, q1, q2, q3, q4⟩ := hC; intro H locs ls hP hS hl
  exact lv_iushr hx hb hd rfl (k H locs ls hP hS hl)
theorem r_idiv {x y : Int32} (hC : tt_Cx G κ cc own nL fr lo) (hd : decode cc pc = .ok (.idiv, 1)) (hne : ¬ y = 0) (k : tt_V G κ T st (pc + 1) lv (.int (x / y) :: rest)) : tt_V G κ T st pc lv (.int y :: .int x :: rest) := by
  obtain ⟨hx, hb, hml, hnL, hown, hts, hK, hJ, hSx, q1, q2, q3, q4⟩ := hC; intro H locs ls hP hS hl
  exact lv_idiv hx hb hd hne (k H locs ls hP hS hl)
theorem r_irem {x y : Int32} (hC : tt_Cx G κ cc own nL fr lo) (hd : decode cc pc = .ok (.irem, 1)) (hne : ¬ y = 0) (k : tt_V G κ T st (pc + 1) lv (.int (x - x / y * y) :: rest)) : tt_V G κ T st pc lv (.int y :: .int x :: rest) := by
  obtain ⟨hx, hb, hml, hnL, hown, hts, hK, hJ, hSx, q1, q2, q3, q4⟩ := hC; intro H locs ls hP hS hl
  exact lv_irem hx hb hd hne (k H locs ls hP hS hl)
theorem r_ladd {x y : Int64} (hC : tt_Cx G κ cc own nL fr lo) (hd : decode cc pc = .ok (.ladd, 1)) (k : tt_V G κ T st (pc + 1) lv (.long (x + y) :: rest)) : tt_V G κ T st pc lv (.long y :: .long x :: rest) := by
  obtain ⟨hx, hb, hml, hnL, hown, hts, hK, hJ, hSx, q1, q2, q3, q4⟩ := hC; intro H locs ls hP hS hl
  exact lv_ladd hx hb hd (k H locs ls hP hS hl)
theorem r_lmul {x y : Int64} (hC : tt_Cx G κ cc own nL fr lo) (hd : decode cc pc = .ok (.lmul, 1)) (k : tt_V G κ T st (pc + 1) lv (.long (x * y) :: rest)) : tt_V G κ T st pc lv (.long y :: .long x :: rest) := by
  obtain ⟨hx, hb, hml, hnL, hown, hts, hK, hJ, hSx, q1, q2, q3, q4⟩ := hC; intro H locs ls hP hS hl
  exact lv_lmul hx hb hd (k H locs ls hP hS hl)
theorem r_land {x y : Int64} (hC : tt_Cx G κ cc own nL fr lo) (hd : decode cc pc = .ok (.land, 1)) (k : tt_V G κ T st (pc + 1) lv (.long (x &&& y) :: rest)) : tt_V G κ T st pc lv (.long y :: .long x :: rest) := by
  obtain ⟨hx, hb, hml, hnL, hown, hts, hK, hJ, hSx, q1, q2, q3, q4⟩ := hC; intro H locs ls hP hS hl
  exact lv_land hx hb hd (k H locs ls hP hS hl)
theorem r_ldiv {x y : Int64} (hC : tt_Cx G κ cc own nL fr lo) (hd : decode cc pc = .ok (.ldiv, 1)) (hne : ¬ y = 0) (k : tt_V G κ T st (pc + 1) lv (.long (x / y) :: rest)) : tt_V G κ T st pc lv (.long y :: .long x :: rest) := by
  obtain ⟨hx, hb, hml, hnL, hown, hts, hK, hJ, hSx, q1, q2, q3, q4⟩ := hC; intro H locs ls hP hS hl
  exact lv_ldiv hx hb hd hne (k H locs ls hP hS hl)
theorem r_lrem {x y : Int64} (hC : tt_Cx G κ cc own nL fr lo) (hd : decode cc pc = .ok (.lrem, 1)) (hne : ¬ y = 0) (k : tt_V G κ T st (pc + 1) lv (.long (x - x / y * y) :: rest)) : tt_V G κ T st pc lv (.long y :: .long x :: rest) := by
  obtain ⟨hx, hb, hml, hnL, hown, hts, hK, hJ, hSx, q1, q2, q3, q4⟩ := hC; intro H locs ls hP hS hl
  exact lv_lrem hx hb hd hne (k H locs ls hP hS hl)
theorem r_i2l {x : Int32} (hC : tt_Cx G κ cc own nL fr lo) (hd : decode cc pc = .ok (.i2l, 1)) (k : tt_V G κ T st (pc + 1) lv (.long x.toInt64 :: rest)) : tt_V G κ T st pc lv (.int x :: rest) := by
  obtain ⟨hx, hb, hml, hnL, hown, hts, hK, hJ, hSx, q1, q2, q3, q4⟩ := hC; intro H locs ls hP hS hl
  exact lv_i2l hx hb hd rfl (k H locs ls hP hS hl)
theorem r_l2i {x : Int64} (hC : tt_Cx G κ cc own nL fr lo) (hd : decode cc pc = .ok (.l2i, 1)) (k : tt_V G κ T st (pc + 1) lv (.int x.toInt32 :: rest)) : tt_V G κ T st pc lv (.long x :: rest) := by
  obtain ⟨hx, hb, hml, hnL, hown, hts, hK, hJ, hSx, q1, q2, q3, q4⟩ := hC; intro H locs ls hP hS hl
  exact lv_l2i hx hb hd rfl (k H locs ls hP hS hl)
theorem r_i2b {x : Int32} (hC : tt_Cx G κ cc own nL fr lo) (hd : decode cc pc = .ok (.i2b, 1)) (k : tt_V G κ T st (pc + 1) lv (.int x.toInt8.toInt32 :: rest)) : tt_V G κ T st pc lv (.int x :: rest) := by
  obtain ⟨hx, hb, hml, hnL, hown, hts, hK, hJ, hSx, q1, q2, q3, q4⟩ := hC; intro H locs ls hP hS hl
  exact lv_i2b hx hb hd rfl (k H locs ls hP hS hl)
theorem r_i2c {x : Int32} (hC : tt_Cx G κ cc own nL fr lo) (hd : decode cc pc = .ok (.i2c, 1)) (k : tt_V G κ T st (pc + 1) lv (.int (x.toUInt32 % 65536).toInt32 :: rest)) : tt_V G κ T st pc lv (.int x :: rest) := by
  obtain ⟨hx, hb, hml, hnL, hown, hts, hK, hJ, hSx, q1, q2, q3, q4⟩ := hC; intro H locs ls hP hS hl
  exact lv_i2c hx hb hd rfl (k H locs ls hP hS hl)
theorem r_dup {va : Value} (hC : tt_Cx G κ cc own nL fr lo) (hd : decode cc pc = .ok (.dup, 1)) (hva : va.category = 1) (k : tt_V G κ T st (pc + 1) lv (va :: va :: rest)) : tt_V G κ T st pc lv (va :: rest) := by
  obtain ⟨hx, hb, hml, hnL, hown, hts, hK, hJ, hSx, q1, q2, q3, q4⟩ := hC; intro H locs ls hP hS hl
  exact lv_dup hx hb hd hva (k H locs ls hP hS hl)
theorem r_dup2 {va vb : Value} (hC : tt_Cx G κ cc own nL fr lo) (hd : decode cc pc = .ok (.dup2, 1)) (hva : va.category = 1) (hvb : vb.category = 1) (k : tt_V G κ T st (pc + 1) lv (va :: vb :: va :: vb :: rest)) : tt_V G κ T st pc lv (va :: vb :: rest) := by
  obtain ⟨hx, hb, hml, hnL, hown, hts, hK, hJ, hSx, q1, q2, q3, q4⟩ := hC; intro H locs ls hP hS hl
  exact lv_dup2_11 hx hb hd hva hvb (k H locs ls hP hS hl)
theorem r_pop {va : Value} (hC : tt_Cx G κ cc own nL fr lo) (hd : decode cc pc = .ok (.pop, 1)) (hva : va.category = 1) (k : tt_V G κ T st (pc + 1) lv (rest)) : tt_V G κ T st pc lv (va :: rest) := by
  obtain ⟨hx, hb, hml, hnL, hown, hts, hK, hJ, hSx, q1, q2, q3, q4⟩ := hC; intro H locs ls hP hS hl
  exact lv_pop hx hb hd hva (k H locs ls hP hS hl)
theorem r_goto {off : Int} {tgt : Nat} (hC : tt_Cx G κ cc own nL fr lo) (hd : decode cc pc = .ok (.goto off, 3)) (ht : (pc : Int) + off = (tgt : Int)) (k : tt_V G κ T st tgt lv rest) : tt_V G κ T st pc lv rest := by
  obtain ⟨hx, hb, hml, hnL, hown, hts, hK, hJ, hSx, q1, q2, q3, q4⟩ := hC; intro H locs ls hP hS hl
  exact lv_goto hx hb hd ht (k H locs ls hP hS hl)
theorem r_if_eq {x : Int32} {off : Int} {tgt : Nat} {T1 T2 : α} (hC : tt_Cx G κ cc own nL fr lo) (hd : decode cc pc = .ok (.ifCond .eq off, 3)) (ht : (pc : Int) + off = (tgt : Int)) (kt : x = 0 → tt_V G κ T1 st tgt lv rest) (kf : ¬ x = 0 → tt_V G κ T2 st (pc + 3) lv rest) : tt_V G κ (if x = 0 then T1 else T2) st pc lv (.int x :: rest) := by
  obtain ⟨hx, hb, hml, hnL, hown, hts, hK, hJ, hSx, q1, q2, q3, q4⟩ := hC; intro H locs ls hP hS hl
  by_cases hc : x = 0
  · rw [if_pos hc]; exact lv_if_eq hx hb hd ht (fun c => kt c H locs ls hP hS hl) (fun c => absurd hc c)
  · rw [if_neg hc]; exact lv_if_eq hx hb hd ht (fun c => absurd c hc) (fun c => kf c H locs ls hP hS hl)
theorem j_if_eq {x : Int32} {off : Int} {tgt : Nat} (hC : tt_Cx G κ cc own nL fr lo) (hd : decode cc pc = .ok (.ifCond .eq off, 3)) (ht : (pc : Int) + off = (tgt : Int)) (kt : x = 0 → tt_V G κ T st tgt lv rest) (kf : ¬ x = 0 → tt_V G κ T st (pc + 3) lv rest) : tt_V G κ T st pc lv (.int x :: rest) := by
  obtain ⟨hx, hb, hml, hnL, hown, hts, hK, hJ, hSx, q1, q2, q3, q4⟩ := hC; intro H locs ls hP hS hl
  exact lv_if_eq hx hb hd ht (fun c => kt c H locs ls hP hS hl) (fun c => kf c H locs ls hP hS hl)
theorem t_if_eq {x : Int32} {off : Int} {tgt : Nat} (hC : tt_Cx G κ cc own nL fr lo) (hd : decode cc pc = .ok (.ifCond .eq off, 3)) (ht : (pc : Int) + off = (tgt : Int)) (h : x = 0) (k : tt_V G κ T st tgt lv rest) : tt_V G κ T st pc lv (.int x :: rest) := j_if_eq hC hd ht (fun _ => k) (fun c => absurd h c)
theorem f_if_eq {x : Int32} {off : Int} {tgt : Nat} (hC : tt_Cx G κ cc own nL fr lo) (hd : decode cc pc = .ok (.ifCond .eq off, 3)) (ht : (pc : Int) + off = (tgt : Int)) (h : ¬ x = 0) (k : tt_V G κ T st (pc + 3) lv rest) : tt_V G κ T st pc lv (.int x :: rest) := j_if_eq hC hd ht (fun c => absurd c h) (fun _ => k)
theorem r_if_ne {x : Int32} {off : Int} {tgt : Nat} {T1 T2 : α} (hC : tt_Cx G κ cc own nL fr lo) (hd : decode cc pc = .ok (.ifCond .ne off, 3)) (ht : (pc : Int) + off = (tgt : Int)) (kt : ¬ x = 0 → tt_V G κ T2 st tgt lv rest) (kf : x = 0 → tt_V G κ T1 st (pc + 3) lv rest) : tt_V G κ (if x = 0 then T1 else T2) st pc lv (.int x :: rest) := by
  obtain ⟨hx, hb, hml, hnL, hown, hts, hK, hJ, hSx, q1, q2, q3, q4⟩ := hC; intro H locs ls hP hS hl
  by_cases hc : x = 0
  · rw [if_pos hc]; exact lv_if_ne hx hb hd ht (fun c => absurd hc c) (fun c => kf c H locs ls hP hS hl)
  · rw [if_neg hc]; exact lv_if_ne hx hb hd ht (fun c => kt c H locs ls hP hS hl) (fun c => absurd c hc)
theorem j_if_ne {x : Int32} {off : Int} {tgt : Nat} (hC : tt_Cx G κ cc own nL fr lo) (hd : decode cc pc = .ok (.ifCond .ne off, 3)) (ht : (pc : Int) + off = (tgt : Int)) (kt : ¬ x = 0 → tt_V G κ T st tgt lv rest) (kf : x = 0 → tt_V G κ T st (pc + 3) lv rest) : tt_V G κ T st pc lv (.int x :: rest) := by
  obtain ⟨hx, hb, hml, hnL, hown, hts, hK, hJ, hSx, q1, q2, q3, q4⟩ := hC; intro H locs ls hP hS hl
  exact lv_if_ne hx hb hd ht (fun c => kt c H locs ls hP hS hl) (fun c => kf c H locs ls hP hS hl)
theorem t_if_ne {x : Int32} {off : Int} {tgt : Nat} (hC : tt_Cx G κ cc own nL fr lo) (hd : decode cc pc = .ok (.ifCond .ne off, 3)) (ht : (pc : Int) + off = (tgt : Int)) (h : ¬ x = 0) (k : tt_V G κ T st tgt lv rest) : tt_V G κ T st pc lv (.int x :: rest) := j_if_ne hC hd ht (fun _ => k) (fun c => absurd c h)
theorem f_if_ne {x : Int32} {off : Int} {tgt : Nat} (hC : tt_Cx G κ cc own nL fr lo) (hd : decode cc pc = .ok (.ifCond .ne off, 3)) (ht : (pc : Int) + off = (tgt : Int)) (h : x = 0) (k : tt_V G κ T st (pc + 3) lv rest) : tt_V G κ T st pc lv (.int x :: rest) := j_if_ne hC hd ht (fun c => absurd h c) (fun _ => k)
theorem r_if_lt {x : Int32} {off : Int} {tgt : Nat} {T1 T2 : α} (hC : tt_Cx G κ cc own nL fr lo) (hd : decode cc pc = .ok (.ifCond .lt off, 3)) (ht : (pc : Int) + off = (tgt : Int)) (kt : x < 0 → tt_V G κ T1 st tgt lv rest) (kf : ¬ x < 0 → tt_V G κ T2 st (pc + 3) lv rest) : tt_V G κ (if x < 0 then T1 else T2) st pc lv (.int x :: rest) := by
  obtain ⟨hx, hb, hml, hnL, hown, hts, hK, hJ, hSx, q1, q2, q3, q4⟩ := hC; intro H locs ls hP hS hl
  by_cases hc : x < 0
  · rw [if_pos hc]; exact lv_if_lt hx hb hd ht (fun c => kt c H locs ls hP hS hl) (fun c => absurd hc c)
  · rw [if_neg hc]; exact lv_if_lt hx hb hd ht (fun c => absurd c hc) (fun c => kf c H locs ls hP hS hl)
theorem j_if_lt {x : Int32} {off : Int} {tgt : Nat} (hC : tt_Cx G κ cc own nL fr lo) (hd : decode cc pc = .ok (.ifCond .lt off, 3)) (ht : (pc : Int) + off = (tgt : Int)) (kt : x < 0 → tt_V G κ T st tgt lv rest) (kf : ¬ x < 0 → tt_V G κ T st (pc + 3) lv rest) : tt_V G κ T st pc lv (.int x :: rest) := by
  obtain ⟨hx, hb, hml, hnL, hown, hts, hK, hJ, hSx, q1, q2, q3, q4⟩ := hC; intro H locs ls hP hS hl
  exact lv_if_lt hx hb hd ht (fun c => kt c H locs ls hP hS hl) (fun c => kf c H locs ls hP hS hl)
theorem t_if_lt {x : Int32} {off : Int} {tgt : Nat} (hC : tt_Cx G κ cc own nL fr lo) (hd : decode cc pc = .ok (.ifCond .lt off, 3)) (ht : (pc : Int) + off = (tgt : Int)) (h : x < 0) (k : tt_V G κ T st tgt lv rest) : tt_V G κ T st pc lv (.int x :: rest) := j_if_lt hC hd ht (fun _ => k) (fun c => absurd h c)
theorem f_if_lt {x : Int32} {off : Int} {tgt : Nat} (hC : tt_Cx G κ cc own nL fr lo) (hd : decode cc pc = .ok (.ifCond .lt off, 3)) (ht : (pc : Int) + off = (tgt : Int)) (h : ¬ x < 0) (k : tt_V G κ T st (pc + 3) lv rest) : tt_V G κ T st pc lv (.int x :: rest) := j_if_lt hC hd ht (fun c => absurd c h) (fun _ => k)
theorem r_if_ge {x : Int32} {off : Int} {tgt : Nat} {T1 T2 : α} (hC : tt_Cx G κ cc own nL fr lo) (hd : decode cc pc = .ok (.ifCond .ge off, 3)) (ht : (pc : Int) + off = (tgt : Int)) (kt : 0 ≤ x → tt_V G κ T1 st tgt lv rest) (kf : ¬ 0 ≤ x → tt_V G κ T2 st (pc + 3) lv rest) : tt_V G κ (if 0 ≤ x then T1 else T2) st pc lv (.int x :: rest) := by
  obtain ⟨hx, hb, hml, hnL, hown, hts, hK, hJ, hSx, q1, q2, q3, q4⟩ := hC; intro H locs ls hP hS hl
  by_cases hc : 0 ≤ x
  · rw [if_pos hc]; exact lv_if_ge hx hb hd ht (fun c => kt c H locs ls hP hS hl) (fun c => absurd hc c)
  · rw [if_neg hc]; exact lv_if_ge hx hb hd ht (fun c => absurd c hc) (fun c => kf c H locs ls hP hS hl)
theorem j_if_ge {x : Int32} {off : Int} {tgt : Nat} (hC : tt_Cx G κ cc own nL fr lo) (hd : decode cc pc = .ok (.ifCond .ge off, 3)) (ht : (pc : Int) + off = (tgt : Int)) (kt : 0 ≤ x → tt_V G κ T st tgt lv rest) (kf : ¬ 0 ≤ x → tt_V G κ T st (pc + 3) lv rest) : tt_V G κ T st pc lv (.int x :: rest) := by
  obtain ⟨hx, hb, hml, hnL, hown, hts, hK, hJ, hSx, q1, q2, q3, q4⟩ := hC; intro H locs ls hP hS hl
  exact lv_if_ge hx hb hd ht (fun c => kt c H locs ls hP hS hl) (fun c => kf c H locs ls hP hS hl)
theorem t_if_ge {x : Int32} {off : Int} {tgt : Nat} (hC : tt_Cx G κ cc own nL fr lo) (hd : decode cc pc = .ok (.ifCond .ge off, 3)) (ht : (pc : Int) + off = (tgt : Int)) (h : 0 ≤ x) (k : tt_V G κ T st tgt lv rest) : tt_V G κ T st pc lv (.int x :: rest) := j_if_ge hC hd ht (fun _ => k) (fun c => absurd h c)
theorem f_if_ge {x : Int32} {off : Int} {tgt : Nat} (hC : tt_Cx G κ cc own nL fr lo) (hd : decode cc pc = .ok (.ifCond .ge off, 3)) (ht : (pc : Int) + off = (tgt : Int)) (h : ¬ 0 ≤ x) (k : tt_V G κ T st (pc + 3) lv rest) : tt_V G κ T st pc lv (.int x :: rest) := j_if_ge hC hd ht (fun c => absurd c h) (fun _ => k)
theorem r_if_gt {x : Int32} {off : Int} {tgt : Nat} {T1 T2 : α} (hC : tt_Cx G κ cc own nL fr lo) (hd : decode cc pc = .ok (.ifCond .gt off, 3)) (ht : (pc : Int) + off = (tgt : Int)) (kt : 0 < x → tt_V G κ T1 st tgt lv rest) (kf : ¬ 0 < x → tt_V G κ T2 st (pc + 3) lv rest) : tt_V G κ (if 0 < x then T1 else T2) st pc lv (.int x :: rest) := by
  obtain ⟨hx, hb, hml, hnL, hown, hts, hK, hJ, hSx, q1, q2, q3, q4⟩ := hC; intro H locs ls hP hS hl
  by_cases hc : 0 < x
  · rw [if_pos hc]; exact lv_if_gt hx hb hd ht (fun c => kt c H locs ls hP hS hl) (fun c => absurd hc c)
  · rw [if_neg hc]; exact lv_if_gt hx hb hd ht (fun c => absurd c hc) (fun c => kf c H locs ls hP hS hl)
theorem j_if_gt {x : Int32} {off : Int} {tgt : Nat} (hC : tt_Cx G κ cc own nL fr lo) (hd : decode cc pc = .ok (.ifCond .gt off, 3)) (ht : (pc : Int) + off = (tgt : Int)) (kt : 0 < x → tt_V G κ T st tgt lv rest) (kf : ¬ 0 < x → tt_V G κ T st (pc + 3) lv rest) : tt_V G κ T st pc lv (.int x :: rest) := by
  obtain ⟨hx, hb, hml, hnL, hown, hts, hK, hJ, hSx, q1, q2, q3, q4⟩ := hC; intro H locs ls hP hS hl
  exact lv_if_gt hx hb hd ht (fun c => kt c H locs ls hP hS hl) (fun c => kf c H locs ls hP hS hl)
theorem t_if_gt {x : Int32} {off : Int} {tgt : Nat} (hC : tt_Cx G κ cc own nL fr lo) (hd : decode cc pc = .ok (.ifCond .gt off, 3)) (ht : (pc : Int) + off = (tgt : Int)) (h : 0 < x) (k : tt_V G κ T st tgt lv rest) : tt_V G κ T st pc lv (.int x :: rest) := j_if_gt hC hd ht (fun _ => k) (fun c => absurd h c)
theorem f_if_gt {x : Int32} {off : Int} {tgt : Nat} (hC : tt_Cx G κ cc own nL fr lo) (hd : decode cc pc = .ok (.ifCond .gt off, 3)) (ht : (pc : Int) + off = (tgt : Int)) (h : ¬ 0 < x) (k : tt_V G κ T st (pc + 3) lv rest) : tt_V G κ T st pc lv (.int x :: rest) := j_if_gt hC hd ht (fun c => absurd c h) (fun _ => k)
theorem r_if_le {x : Int32} {off : Int} {tgt : Nat} {T1 T2 : α} (hC : tt_Cx G κ cc own nL fr lo) (hd : decode cc pc = .ok (.ifCond .le off, 3)) (ht : (pc : Int) + off = (tgt : Int)) (kt : x ≤ 0 → tt_V G κ T1 st tgt lv rest) (kf : ¬ x ≤ 0 → tt_V G κ T2 st (pc + 3) lv rest) : tt_V G κ (if x ≤ 0 then T1 else T2) st pc lv (.int x :: rest) := by
  obtain ⟨hx, hb, hml, hnL, hown, hts, hK, hJ, hSx, q1, q2, q3, q4⟩ := hC; intro H locs ls hP hS hl
  by_cases hc : x ≤ 0
  · rw [if_pos hc]; exact lv_if_le hx hb hd ht (fun c => kt c H locs ls hP hS hl) (fun c => absurd hc c)
  · rw [if_neg hc]; exact lv_if_le hx hb hd ht (fun c => absurd c hc) (fun c => kf c H locs ls hP hS hl)
theorem j_if_le {x : Int32} {off : Int} {tgt : Nat} (hC : tt_Cx G κ cc own nL fr lo) (hd : decode cc pc = .ok (.ifCond .le off, 3)) (ht : (pc : Int) + off = (tgt : Int)) (kt : x ≤ 0 → tt_V G κ T st tgt lv rest) (kf : ¬ x ≤ 0 → tt_V G κ T st (pc + 3) lv rest) : tt_V G κ T st pc lv (.int x :: rest) := by
  obtain ⟨hx, hb, hml, hnL, hown, hts, hK, hJ, hSx, q1, q2, q3, q4⟩ := hC; intro H locs ls hP hS hl
  exact lv_if_le hx hb hd ht (fun c => kt c H locs ls hP hS hl) (fun c => kf c H locs ls hP hS hl)
theorem t_if_le {x : Int32} {off : Int} {tgt : Nat} (hC : tt_Cx G κ cc own nL fr lo) (hd : decode cc pc = .ok (.ifCond .le off, 3)) (ht : (pc : Int) + off = (tgt : Int)) (h : x ≤ 0) (k : tt_V G κ T st tgt lv rest) : tt_V G κ T st pc lv (.int x :: rest) := j_if_le hC hd ht (fun _ => k) (fun c => absurd h c)
theorem f_if_le {x : Int32} {off : Int} {tgt : Nat} (hC : tt_Cx G κ cc own nL fr lo) (hd : decode cc pc = .ok (.ifCond .le off, 3)) (ht : (pc : Int) + off = (tgt : Int)) (h : ¬ x ≤ 0) (k : tt_V G κ T st (pc + 3) lv rest) : tt_V G κ T st pc lv (.int x :: rest) := j_if_le hC hd ht (fun c => absurd c h) (fun _ => k)
theorem r_icmp_eq {x y : Int32} {off : Int} {tgt : Nat} {T1 T2 : α} (hC : tt_Cx G κ cc own nL fr lo) (hd : decode cc pc = .ok (.if_icmp .eq off, 3)) (ht : (pc : Int) + off = (tgt : Int)) (kt : x = y → tt_V G κ T1 st tgt lv rest) (kf : ¬ x = y → tt_V G κ T2 st (pc + 3) lv rest) : tt_V G κ (if x = y then T1 else T2) st pc lv (.int y :: .int x :: rest) := by
  obtain ⟨hx, hb, hml, hnL, hown, hts, hK, hJ, hSx, q1, q2, q3, q4⟩ := hC; intro H locs ls hP hS hl
  by_cases hc : x = y
  · rw [if_pos hc]; exact lv_icmp_eq hx hb hd ht (fun c => kt c H locs ls hP hS hl) (fun c => absurd hc c)
  · rw [if_neg hc]; exact lv_icmp_eq hx hb hd ht (fun c => absurd c hc) (fun c => kf c H locs ls hP hS hl)
theorem j_icmp_eq {x y : Int32} {off : Int} {tgt : Nat} (hC : tt_Cx G κ cc own nL fr lo) (hd : decode cc pc = .ok (.if_icmp .eq off, 3)) (ht : (pc : Int) + off = (tgt : Int)) (kt : x = y → tt_V G κ T st tgt lv rest) (kf : ¬ x = y → tt_V G κ T st (pc + 3) lv rest) : tt_V G κ T st pc lv (.int y :: .int x :: rest) := by
  obtain ⟨hx, hb, hml, hnL, hown, hts, hK, hJ, hSx, q1, q2, q3, q4⟩ := hC; intro H locs ls hP hS hl
  exact lv_icmp_eq hx hb hd ht (fun c => kt c H locs ls hP hS hl) (fun c => kf c H locs ls hP hS hl)
theorem t_icmp_eq {x y : Int32} {off : Int} {tgt : Nat} (hC : tt_Cx G κ cc own nL fr lo) (hd : decode cc pc = .ok (.if_icmp .eq off, 3)) (ht : (pc : Int) + off = (tgt : Int)) (h : x = y) (k : tt_V G κ T st tgt lv rest) : tt_V G κ T st pc lv (.int y :: .int x :: rest) := j_icmp_eq hC hd ht (fun _ => k) (fun c => absurd h c)
theorem f_icmp_eq {x y : Int32} {off : Int} {tgt : Nat} (hC : tt_Cx G κ cc own nL fr lo) (hd : decode cc pc = .ok (.if_icmp .eq off, 3)) (ht : (pc : Int) + off = (tgt : Int)) (h : ¬ x = y) (k : tt_V G κ T st (pc + 3) lv rest) : tt_V G κ T st pc lv (.int y :: .int x :: rest) := j_icmp_eq hC hd ht (fun c => absurd c h) (fun _ => k)
theorem r_icmp_ne {x y : Int32} {off : Int} {tgt : Nat} {T1 T2 : α} (hC : tt_Cx G κ cc own nL fr lo) (hd : decode cc pc = .ok (.if_icmp .ne off, 3)) (ht : (pc : Int) + off = (tgt : Int)) (kt : ¬ x = y → tt_V G κ T2 st tgt lv rest) (kf : x = y → tt_V G κ T1 st (pc + 3) lv rest) : tt_V G κ (if x = y then T1 else T2) st pc lv (.int y :: .int x :: rest) := by
  obtain ⟨hx, hb, hml, hnL, hown, hts, hK, hJ, hSx, q1, q2, q3, q4⟩ := hC; intro H locs ls hP hS hl
  by_cases hc : x = y
  · rw [if_pos hc]; exact lv_icmp_ne hx hb hd ht (fun c => absurd hc c) (fun c => kf c H locs ls hP hS hl)
  · rw [if_neg hc]; exact lv_icmp_ne hx hb hd ht (fun c => kt c H locs ls hP hS hl) (fun c => absurd c hc)
theorem j_icmp_ne {x y : Int32} {off : Int} {tgt : Nat} (hC : tt_Cx G κ cc own nL fr lo) (hd : decode cc pc = .ok (.if_icmp .ne off, 3)) (ht : (pc : Int) + off = (tgt : Int)) (kt : ¬ x = y → tt_V G κ T st tgt lv rest) (kf : x = y → tt_V G κ T st (pc + 3) lv rest) : tt_V G κ T st pc lv (.int y :: .int x :: rest) := by
  obtain ⟨hx, hb, hml, hnL, hown, hts, hK, hJ, hSx, q1, q2, q3, q4⟩ := hC; intro H locs ls hP hS hl
  exact lv_icmp_ne hx hb hd ht (fun c => kt c H locs ls hP hS hl) (fun c => kf c H locs ls hP hS hl)
theorem t_icmp_ne {x y : Int32} {off : Int} {tgt : Nat} (hC : tt_Cx G κ cc own nL fr lo) (hd : decode cc pc = .ok (.if_icmp .ne off, 3)) (ht : (pc : Int) + off = (tgt : Int)) (h : ¬ x = y) (k : tt_V G κ T st tgt lv rest) : tt_V G κ T st pc lv (.int y :: .int x :: rest) := j_icmp_ne hC hd ht (fun _ => k) (fun c => absurd c h)
theorem f_icmp_ne {x y : Int32} {off : Int} {tgt : Nat} (hC : tt_Cx G κ cc own nL fr lo) (hd : decode cc pc = .ok (.if_icmp .ne off, 3)) (ht : (pc : Int) + off = (tgt : Int)) (h : x = y) (k : tt_V G κ T st (pc + 3) lv rest) : tt_V G κ T st pc lv (.int y :: .int x :: rest) := j_icmp_ne hC hd ht (fun c => absurd h c) (fun _ => k)
theorem r_icmp_lt {x y : Int32} {off : Int} {tgt : Nat} {T1 T2 : α} (hC : tt_Cx G κ cc own nL fr lo) (hd : decode cc pc = .ok (.if_icmp .lt off, 3)) (ht : (pc : Int) + off = (tgt : Int)) (kt : x < y → tt_V G κ T1 st tgt lv rest) (kf : ¬ x < y → tt_V G κ T2 st (pc + 3) lv rest) : tt_V G κ (if x < y then T1 else T2) st pc lv (.int y :: .int x :: rest) := by
  obtain ⟨hx, hb, hml, hnL, hown, hts, hK, hJ, hSx, q1, q2, q3, q4⟩ := hC; intro H locs ls hP hS hl
  by_cases hc : x < y
  · rw [if_pos hc]; exact lv_icmp_lt hx hb hd ht (fun c => kt c H locs ls hP hS hl) (fun c => absurd hc c)
  · rw [if_neg hc]; exact lv_icmp_lt hx hb hd ht (fun c => absurd c hc) (fun c => kf c H locs ls hP hS hl)
theorem j_icmp_lt {x y : Int32} {off : Int} {tgt : Nat} (hC : tt_Cx G κ cc own nL fr lo) (hd : decode cc pc = .ok (.if_icmp .lt off, 3)) (ht : (pc : Int) + off = (tgt : Int)) (kt : x < y → tt_V G κ T st tgt lv rest) (kf : ¬ x < y → tt_V G κ T st (pc + 3) lv rest) : tt_V G κ T st pc lv (.int y :: .int x :: rest) := by
  obtain ⟨hx, hb, hml, hnL, hown, hts, hK, hJ, hSx, q1, q2, q3, q4⟩ := hC; intro H locs ls hP hS hl
  exact lv_icmp_lt hx hb hd ht (fun c => kt c H locs ls hP hS hl) (fun c => kf c H locs ls hP hS hl)
theorem t_icmp_lt {x y : Int32} {off : Int} {tgt : Nat} (hC : tt_Cx G κ cc own nL fr lo) (hd : decode cc pc = .ok (.if_icmp .lt off, 3)) (ht : (pc : Int) + off = (tgt : Int)) (h : x < y) (k : tt_V G κ T st tgt lv rest) : tt_V G κ T st pc lv (.int y :: .int x :: rest) := j_icmp_lt hC hd ht (fun _ => k) (fun c => absurd h c)
theorem f_icmp_lt {x y : Int32} {off : Int} {tgt : Nat} (hC : tt_Cx G κ cc own nL fr lo) (hd : decode cc pc = .ok (.if_icmp .lt off, 3)) (ht : (pc : Int) + off = (tgt : Int)) (h : ¬ x < y) (k : tt_V G κ T st (pc + 3) lv rest) : tt_V G κ T st pc lv (.int y :: .int x :: rest) := j_icmp_lt hC hd ht (fun c => absurd c h) (fun _ => k)
theorem r_icmp_ge {x y : Int32} {off : Int} {tgt : Nat} {T1 T2 : α} (hC : tt_Cx G κ cc own nL fr lo) (hd : decode cc pc = .ok (.if_icmp .ge off, 3)) (ht : (pc : Int) + off = (tgt : Int)) (kt : y ≤ x → tt_V G κ T1 st tgt lv rest) (kf : ¬ y ≤ x → tt_V G κ T2 st (pc + 3) lv rest) : tt_V G κ (if y ≤ x then T1 else T2) st pc lv (.int y :: .int x :: rest) := by
  obtain ⟨hx, hb, hml, hnL, hown, hts, hK, hJ, hSx, q1, q2, q3, q4⟩ := hC; intro H locs ls hP hS hl
  by_cases hc : y ≤ x
  · rw [if_pos hc]; exact lv_icmp_ge hx hb hd ht (fun c => kt c H locs ls hP hS hl) (fun c => absurd hc c)
  · rw [if_neg hc]; exact lv_icmp_ge hx hb hd ht (fun c => absurd c hc) (fun c => kf c H locs ls hP hS hl)
theorem j_icmp_ge {x y : Int32} {off : Int} {tgt : Nat} (hC : tt_Cx G κ cc own nL fr lo) (hd : decode cc pc = .ok (.if_icmp .ge off, 3)) (ht : (pc : Int) + off = (tgt : Int)) (kt : y ≤ x → tt_V G κ T st tgt lv rest) (kf : ¬ y ≤ x → tt_V G κ T st (pc + 3) lv rest) : tt_V G κ T st pc lv (.int y :: .int x :: rest) := by
  obtain ⟨hx, hb, hml, hnL, hown, hts, hK, hJ, hSx, q1, q2, q3, q4⟩ := hC; intro H locs ls hP hS hl
  exact lv_icmp_ge hx hb hd ht (fun c => kt c H locs ls hP hS hl) (fun c => kf c H locs ls hP hS hl)
theorem t_icmp_ge {x y : Int32} {off : Int} {tgt : Nat} (hC : tt_Cx G κ cc own nL fr lo) (hd : decode cc pc = .ok (.if_icmp .ge off, 3)) (ht : (pc : Int) + off = (tgt : Int)) (h : y ≤ x) (k : tt_V G κ T st tgt lv rest) : tt_V G κ T st pc lv (.int y :: .int x :: rest) := j_icmp_ge hC hd ht (fun _ => k) (fun c => absurd h c)
theorem f_icmp_ge {x y : Int32} {off : Int} {tgt : Nat} (hC : tt_Cx G κ cc own nL fr lo) (hd : decode cc pc = .ok (.if_icmp .ge off, 3)) (ht : (pc : Int) + off = (tgt : Int)) (h : ¬ y ≤ x) (k : tt_V G κ T st (pc + 3) lv rest) : tt_V G κ T st pc lv (.int y :: .int x :: rest) := j_icmp_ge hC hd ht (fun c => absurd c h) (fun _ => k)
theorem r_icmp_gt {x y : Int32} {off : Int} {tgt : Nat} {T1 T2 : α} (hC : tt_Cx G κ cc own nL fr lo) (hd : decode cc pc = .ok (.if_icmp .gt off, 3)) (ht : (pc : Int) + off = (tgt : Int)) (kt : y < x → tt_V G κ T1 st tgt lv rest) (kf : ¬ y < x → tt_V G κ T2 st (pc + 3) lv rest) : tt_V G κ (if y < x then T1 else T2) st pc lv (.int y :: .int x :: rest) := by
  obtain ⟨hx, hb, hml, hnL, hown, hts, hK, hJ, hSx, q1, q2, q3, q4⟩ := hC; intro H locs ls hP hS hl
  by_cases hc : y < x
  · rw [if_pos hc]; exact lv_icmp_gt hx hb hd ht (fun c => kt c H locs ls hP hS hl) (fun c => absurd hc c)
  · rw [if_neg hc]; exact lv_icmp_gt hx hb hd ht (fun c => absurd c hc) (fun c => kf c H locs ls hP hS hl)
theorem j_icmp_gt {x y : Int32} {off : Int} {tgt : Nat} (hC : tt_Cx G κ cc own nL fr lo) (hd : decode cc pc = .ok (.if_icmp .gt off, 3)) (ht : (pc : Int) + off = (tgt : Int)) (kt : y < x → tt_V G κ T st tgt lv rest) (kf : ¬ y < x → tt_V G κ T st (pc + 3) lv rest) : tt_V G κ T st pc lv (.int y :: .int x :: rest) := by
  obtain ⟨hx, hb, hml, hnL, hown, hts, hK, hJ, hSx, q1, q2, q3, q4⟩ := hC; intro H locs ls hP hS hl
  exact lv_icmp_gt hx hb hd ht (fun c => kt c H locs ls hP hS hl) (fun c => kf c H locs ls hP hS hl)
theorem t_icmp_gt {x y : Int32} {off : Int} {tgt : Nat} (hC : tt_Cx G κ cc own nL fr lo) (hd : decode cc pc = .ok (.if_icmp .gt off, 3)) (ht : (pc : Int) + off = (tgt : Int)) (h : y < x) (k : tt_V G κ T st tgt lv rest) : tt_V G κ T st pc lv (.int y :: .int x :: rest) := j_icmp_gt hC hd ht (fun _ => k) (fun c => absurd h c)
theorem f_icmp_gt {x y : Int32} {off : Int} {tgt : Nat} (hC : tt_Cx G κ cc own nL fr lo) (hd : decode cc pc = .ok (.if_icmp .gt off, 3)) (ht : (pc : Int) + off = (tgt : Int)) (h : ¬ y < x) (k : tt_V G κ T st (pc + 3) lv rest) : tt_V G κ T st pc lv (.int y :: .int x :: rest) := j_icmp_gt hC hd ht (fun c => absurd c h) (fun _ => k)
theorem r_icmp_le {x y : Int32} {off : Int} {tgt : Nat} {T1 T2 : α} (hC : tt_Cx G κ cc own nL fr lo) (hd : decode cc pc = .ok (.if_icmp .le off, 3)) (ht : (pc : Int) + off = (tgt : Int)) (kt : x ≤ y → tt_V G κ T1 st tgt lv rest) (kf : ¬ x ≤ y → tt_V G κ T2 st (pc + 3) lv rest) : tt_V G κ (if x ≤ y then T1 else T2) st pc lv (.int y :: .int x :: rest) := by
  obtain ⟨hx, hb, hml, hnL, hown, hts, hK, hJ, hSx, q1, q2, q3, q4⟩ := hC; intro H locs ls hP hS hl
  by_cases hc : x ≤ y
  · rw [if_pos hc]; exact lv_icmp_le hx hb hd ht (fun c => kt c H locs ls hP hS hl) (fun c => absurd hc c)
  · rw [if_neg hc]; exact lv_icmp_le hx hb hd ht (fun c => absurd c hc) (fun c => kf c H locs ls hP hS hl)
theorem j_icmp_le {x y : Int32} {off : Int} {tgt : Nat} (hC : tt_Cx G κ cc own nL fr lo) (hd : decode cc pc = .ok (.if_icmp .le off, 3)) (ht : (pc : Int) + off = (tgt : Int)) (kt : x ≤ y → tt_V G κ T st tgt lv rest) (kf : ¬ x ≤ y → tt_V G κ T st (pc + 3) lv rest) : tt_V G κ T st pc lv (.int y :: .int x :: rest) := by
  obtain ⟨hx, hb, hml, hnL, hown, hts, hK, hJ, hSx, q1, q2, q3, q4⟩ := hC; intro H locs ls hP hS hl
  exact lv_icmp_le hx hb hd ht (fun c => kt c H locs ls hP hS hl) (fun c => kf c H locs ls hP hS hl)
theorem t_icmp_le {x y : Int32} {off : Int} {tgt : Nat} (hC : tt_Cx G κ cc own nL fr lo) (hd : decode cc pc = .ok (.if_icmp .le off, 3)) (ht : (pc : Int) + off = (tgt : Int)) (h : x ≤ y) (k : tt_V G κ T st tgt lv rest) : tt_V G κ T st pc lv (.int y :: .int x :: rest) := j_icmp_le hC hd ht (fun _ => k) (fun c => absurd h c)
theorem f_icmp_le {x y : Int32} {off : Int} {tgt : Nat} (hC : tt_Cx G κ cc own nL fr lo) (hd : decode cc pc = .ok (.if_icmp .le off, 3)) (ht : (pc : Int) + off = (tgt : Int)) (h : ¬ x ≤ y) (k : tt_V G κ T st (pc + 3) lv rest) : tt_V G κ T st pc lv (.int y :: .int x :: rest) := j_icmp_le hC hd ht (fun c => absurd c h) (fun _ => k)
theorem r_iload_n {q : Fin 4} {x : Int32} (i : Nat) (hC : tt_Cx G κ cc own nL fr lo) (hd : decode cc pc = .ok (.iload_n q, 1)) (hk : lv[i]? = some ((q : Nat), .int x)) (k : tt_V G κ T st (pc + 1) lv (.int x :: rest)) : tt_V G κ T st pc lv rest := by
  obtain ⟨hx, hb, hml, hnL, hown, hts, hK, hJ, hSx, q1, q2, q3, q4⟩ := hC; intro H locs ls hP hS hl
  exact lv_iload_n hx hb hd rfl (lv_at hl i hk) (k H locs ls hP hS hl)
theorem r_iload {j : Nat} {x : Int32} (i : Nat) (hC : tt_Cx G κ cc own nL fr lo) (hd : decode cc pc = .ok (.iload j, 2)) (hk : lv[i]? = some (j, .int x)) (k : tt_V G κ T st (pc + 2) lv (.int x :: rest)) : tt_V G κ T st pc lv rest := by
  obtain ⟨hx, hb, hml, hnL, hown, hts, hK, hJ, hSx, q1, q2, q3, q4⟩ := hC; intro H locs ls hP hS hl
  exact lv_iload hx hb hd (lv_at hl i hk) (k H locs ls hP hS hl)
theorem r_istore {j : Nat} {x : Int32} (lv' : List (Nat × Value)) (hC : tt_Cx G κ cc own nL fr lo) (hd : decode cc pc = .ok (.istore j, 2)) (hn : j < nL) (hl' : (j, Value.int x) :: lv.filter (fun q => !(q.1 == j) && !(q.1 + 1 == j && q.2.category == 2)) = lv') (k : tt_V G κ T st (pc + 2) lv' rest) : tt_V G κ T st pc lv (.int x :: rest) := by
  obtain ⟨hx, hb, hml, hnL, hown, hts, hK, hJ, hSx, q1, q2, q3, q4⟩ := hC; intro H locs ls hP hS hl
  exact lv_istore hx hb hd hl (by rw [hnL]; exact hn) hl' (fun ls' h' => k H locs ls' hP hS h')
theorem r_istore_n {q : Fin 4} {j : Nat} {x : Int32} (lv' : List (Nat × Value)) (hC : tt_Cx G κ cc own nL fr lo) (hd : decode cc pc = .ok (.istore_n q, 1)) (hj : (q : Nat) = j) (hn : j < nL) (hl' : (j, Value.int x) :: lv.filter (fun q => !(q.1 == j) && !(q.1 + 1 == j && q.2.category == 2)) = lv') (k : tt_V G κ T st (pc + 1) lv' rest) : tt_V G κ T st pc lv (.int x :: rest) := by
  obtain ⟨hx, hb, hml, hnL, hown, hts, hK, hJ, hSx, q1, q2, q3, q4⟩ := hC; intro H locs ls hP hS hl
  exact lv_istore_n hx hb hd hj hl (by rw [hnL]; exact hn) hl' (fun ls' h' => k H locs ls' hP hS h')
theorem r_lload_n {q : Fin 4} {x : Int64} (i : Nat) (hC : tt_Cx G κ cc own nL fr lo) (hd : decode cc pc = .ok (.lload_n q, 1)) (hk : lv[i]? = some ((q : Nat), .long x)) (k : tt_V G κ T st (pc + 1) lv (.long x :: rest)) : tt_V G κ T st pc lv rest := by
  obtain ⟨hx, hb, hml, hnL, hown, hts, hK, hJ, hSx, q1, q2, q3, q4⟩ := hC; intro H locs ls hP hS hl
  exact lv_lload_n hx hb hd rfl (lv_at hl i hk) (k H locs ls hP hS hl)
theorem r_lload {j : Nat} {x : Int64} (i : Nat) (hC : tt_Cx G κ cc own nL fr lo) (hd : decode cc pc = .ok (.lload j, 2)) (hk : lv[i]? = some (j, .long x)) (k : tt_V G κ T st (pc + 2) lv (.long x :: rest)) : tt_V G κ T st pc lv rest := by
  obtain ⟨hx, hb, hml, hnL, hown, hts, hK, hJ, hSx, q1, q2, q3, q4⟩ := hC; intro H locs ls hP hS hl
  exact lv_lload hx hb hd (lv_at hl i hk) (k H locs ls hP hS hl)
theorem r_lstore {j : Nat} {x : Int64} (lv' : List (Nat × Value)) (hC : tt_Cx G κ cc own nL fr lo) (hd : decode cc pc = .ok (.lstore j, 2)) (hn : j + 1 < nL) (hl' : (j, Value.long x) :: lv.filter (fun q => !(q.1 == j) && (!(q.1 == j + 1) && !(q.1 + 1 == j && q.2.category == 2))) = lv') (k : tt_V G κ T st (pc + 2) lv' rest) : tt_V G κ T st pc lv (.long x :: rest) := by
  obtain ⟨hx, hb, hml, hnL, hown, hts, hK, hJ, hSx, q1, q2, q3, q4⟩ := hC; intro H locs ls hP hS hl
  exact lv_lstore hx hb hd hl (by rw [hnL]; exact hn) hl' (fun ls' h' => k H locs ls' hP hS h')
theorem r_lstore_n {q : Fin 4} {j : Nat} {x : Int64} (lv' : List (Nat × Value)) (hC : tt_Cx G κ cc own nL fr lo) (hd : decode cc pc = .ok (.lstore_n q, 1)) (hj : (q : Nat) = j) (hn : j + 1 < nL) (hl' : (j, Value.long x) :: lv.filter (fun q => !(q.1 == j) && (!(q.1 == j + 1) && !(q.1 + 1 == j && q.2.category == 2))) = lv') (k : tt_V G κ T st (pc + 1) lv' rest) : tt_V G κ T st pc lv (.long x :: rest) := by
  obtain ⟨hx, hb, hml, hnL, hown, hts, hK, hJ, hSx, q1, q2, q3, q4⟩ := hC; intro H locs ls hP hS hl
  exact lv_lstore_n hx hb hd hj hl (by rw [hnL]; exact hn) hl' (fun ls' h' => k H locs ls' hP hS h')
theorem r_aload_n {q : Fin 4} {x : Nat} (i : Nat) (hC : tt_Cx G κ cc own nL fr lo) (hd : decode cc pc = .ok (.aload_n q, 1)) (hk : lv[i]? = some ((q : Nat), .ref x)) (k : tt_V G κ T st (pc + 1) lv (.ref x :: rest)) : tt_V G κ T st pc lv rest := by
  obtain ⟨hx, hb, hml, hnL, hown, hts, hK, hJ, hSx, q1, q2, q3, q4⟩ := hC; intro H locs ls hP hS hl
  exact lv_aload_n hx hb hd rfl (lv_at hl i hk) (k H locs ls hP hS hl)
theorem r_aload {j : Nat} {x : Nat} (i : Nat) (hC : tt_Cx G κ cc own nL fr lo) (hd : decode cc pc = .ok (.aload j, 2)) (hk : lv[i]? = some (j, .ref x)) (k : tt_V G κ T st (pc + 2) lv (.ref x :: rest)) : tt_V G κ T st pc lv rest := by
  obtain ⟨hx, hb, hml, hnL, hown, hts, hK, hJ, hSx, q1, q2, q3, q4⟩ := hC; intro H locs ls hP hS hl
  exact lv_aload hx hb hd (lv_at hl i hk) (k H locs ls hP hS hl)
theorem r_astore {j : Nat} {x : Nat} (lv' : List (Nat × Value)) (hC : tt_Cx G κ cc own nL fr lo) (hd : decode cc pc = .ok (.astore j, 2)) (hn : j < nL) (hl' : (j, Value.ref x) :: lv.filter (fun q => !(q.1 == j) && !(q.1 + 1 == j && q.2.category == 2)) = lv') (k : tt_V G κ T st (pc + 2) lv' rest) : tt_V G κ T st pc lv (.ref x :: rest) := by
  obtain ⟨hx, hb, hml, hnL, hown, hts, hK, hJ, hSx, q1, q2, q3, q4⟩ := hC; intro H locs ls hP hS hl
  exact lv_astore hx hb hd hl (by rw [hnL]; exact hn) hl' (fun ls' h' => k H locs ls' hP hS h')
theorem r_astore_n {q : Fin 4} {j : Nat} {x : Nat} (lv' : List (Nat × Value)) (hC : tt_Cx G κ cc own nL fr lo) (hd : decode cc pc = .ok (.astore_n q, 1)) (hj : (q : Nat) = j) (hn : j < nL) (hl' : (j, Value.ref x) :: lv.filter (fun q => !(q.1 == j) && !(q.1 + 1 == j && q.2.category == 2)) = lv') (k : tt_V G κ T st (pc + 1) lv' rest) : tt_V G κ T st pc lv (.ref x :: rest) := by
  obtain ⟨hx, hb, hml, hnL, hown, hts, hK, hJ, hSx, q1, q2, q3, q4⟩ := hC; intro H locs ls hP hS hl
  exact lv_astore_n hx hb hd hj hl (by rw [hnL]; exact hn) hl' (fun ls' h' => k H locs ls' hP hS h')
theorem r_iinc {j : Nat} {n : Int} {x : Int32} (i : Nat) (v : Int32) (lv' : List (Nat × Value)) (hC : tt_Cx G κ cc own nL fr lo) (hd : decode cc pc = .ok (.iinc j n, 3)) (hk : lv[i]? = some (j, .int x)) (hv : x + Int32.ofInt n = v) (hn : j < nL) (hl' : (j, Value.int v) :: lv.filter (fun q => !(q.1 == j) && !(q.1 + 1 == j && q.2.category == 2)) = lv') (k : tt_V G κ T st (pc + 3) lv' rest) : tt_V G κ T st pc lv rest := by
  obtain ⟨hx, hb, hml, hnL, hown, hts, hK, hJ, hSx, q1, q2, q3, q4⟩ := hC; intro H locs ls hP hS hl
  exact lv_iinc hx hb hd hl hk hv (by rw [hnL]; exact hn) hl' (fun ls' h' => k H locs ls' hP hS h')
theorem r_sub (lv' : List (Nat × Value)) (ks : List Nat) (hp : lv_pick lv ks = lv') (k : tt_V G κ T st pc lv' rest) : tt_V G κ T st pc lv rest := fun H locs ls hP hS hl => k H locs ls hP hS (lv_sub hl ks hp)
theorem r_ldc {index : Nat} {v : Int32} (hC : tt_Cx G κ cc own nL fr lo) (hd : decode cc pc = .ok (.ldc index, 2)) (hc : Cond.constant own index v ∈ tt_good) (k : tt_V G κ T st (pc + 2) lv (.int v :: rest)) : tt_V G κ T st pc lv rest := by
  obtain ⟨hx, hb, hml, hnL, hown, hts, hK, hJ, hSx, q1, q2, q3, q4⟩ := hC; intro H locs ls hP hS hl
  exact lv_ldc hx hb hown (hts _ hc) hd (k H locs ls hP hS hl)
theorem r_ldcw {index : Nat} {v : Int32} (hC : tt_Cx G κ cc own nL fr lo) (hd : decode cc pc = .ok (.ldc_w index, 3)) (hc : Cond.constant own index v ∈ tt_good) (k : tt_V G κ T st (pc + 3) lv (.int v :: rest)) : tt_V G κ T st pc lv rest := by
  obtain ⟨hx, hb, hml, hnL, hown, hts, hK, hJ, hSx, q1, q2, q3, q4⟩ := hC; intro H locs ls hP hS hl
  exact lv_ldcw hx hb hown (hts _ hc) hd (k H locs ls hP hS hl)
theorem r_ldc2 {index : Nat} {v : Int64} (hC : tt_Cx G κ cc own nL fr lo) (hd : decode cc pc = .ok (.ldc2_w index, 3)) (hc : Cond.constantLong own index v ∈ tt_good) (k : tt_V G κ T st (pc + 3) lv (.long v :: rest)) : tt_V G κ T st pc lv rest := by
  obtain ⟨hx, hb, hml, hnL, hown, hts, hK, hJ, hSx, q1, q2, q3, q4⟩ := hC; intro H locs ls hP hS hl
  exact lv_ldc2 hx hb hown (hts _ hc) hd (k H locs ls hP hS hl)
theorem r_tabOut {dflt lo1 hi1 : Int} {offs : Array Int} {len : Nat} {x : Int32} {tgt : Nat} (hC : tt_Cx G κ cc own nL fr lo) (hd : decode cc pc = .ok (.tableswitch dflt lo1 hi1 offs, len)) (h : x.toInt < lo1 ∨ hi1 < x.toInt) (ht : (pc : Int) + dflt = (tgt : Int)) (k : tt_V G κ T st tgt lv rest) : tt_V G κ T st pc lv (.int x :: rest) := by
  obtain ⟨hx, hb, hml, hnL, hown, hts, hK, hJ, hSx, q1, q2, q3, q4⟩ := hC; intro H locs ls hP hS hl
  exact lv_tableOut hx hb hd h ht (k H locs ls hP hS hl)
theorem r_tabIn {dflt lo1 hi1 : Int} {offs : Array Int} {len : Nat} {x : Int32} {off : Int} {tgt : Nat} (hC : tt_Cx G κ cc own nL fr lo) (hd : decode cc pc = .ok (.tableswitch dflt lo1 hi1 offs, len)) (h1 : ¬ x.toInt < lo1) (h2 : ¬ hi1 < x.toInt) (ho : offs[(x.toInt - lo1).toNat]? = some off) (ht : (pc : Int) + off = (tgt : Int)) (k : tt_V G κ T st tgt lv rest) : tt_V G κ T st pc lv (.int x :: rest) := by
  obtain ⟨hx, hb, hml, hnL, hown, hts, hK, hJ, hSx, q1, q2, q3, q4⟩ := hC; intro H locs ls hP hS hl
  exact lv_tableIn hx hb hd h1 h2 ho ht (k H locs ls hP hS hl)
theorem r_look {dflt : Int} {ps : Array (Int × Int)} {len : Nat} {x : Int32} {off : Int} {tgt : Nat} (hC : tt_Cx G κ cc own nL fr lo) (hd : decode cc pc = .ok (.lookupswitch dflt ps, len)) (hp : (ps.toList.zip (ps.toList.drop 1)).all (fun (a, next) => a.1 < next.1) = true) (ho : Op.lookupswitch.offset ps.toList dflt x.toInt = off) (ht : (pc : Int) + off = (tgt : Int)) (k : tt_V G κ T st tgt lv rest) : tt_V G κ T st pc lv (.int x :: rest) := by
  obtain ⟨hx, hb, hml, hnL, hown, hts, hK, hJ, hSx, q1, q2, q3, q4⟩ := hC; intro H locs ls hP hS hl
  exact lv_lookup hx hb hd hp ho ht (k H locs ls hP hS hl)
/-! fields -/
/-- the pool's entry is this field of this class -/
def tt_FL (own : String) (index ci f : Nat) : Prop := ∃ (C : String) (F : u_T) (N : Nat), tt_cl[ci]? = some (C, F, N) ∧ f < N ∧ tt_nf ci = N ∧ Cond.fieldLink own index C (F f).2.1 (F f).2.2.1 ∈ tt_good ∧ (F f).1 = C ∧ (∀ w ∈ u_ws C F N, w ∈ tt_good)
theorem r_getI {index ci f o : Nat} (hC : tt_Cx G κ cc own nL fr lo) (hd : decode cc pc = .ok (.getfield index, 3)) (hf : tt_FL own index ci f) (hk : tt_kd ci f = 0) (ho : tt_ci o = ci) (k : tt_V G κ T st (pc + 3) lv (.int (tt_I st o f) :: rest)) : tt_V G κ T st pc lv (.ref (tt_ad G o) :: rest) := by
  obtain ⟨hx, hb, hml, hnL, hown, hts, hK, hJ, hSx, q1, q2, q3, q4⟩ := hC; intro H locs ls hP hS hl
  obtain ⟨C, F, N, e1, e2, e3, e4, e5, e6⟩ := hf
  have hlt : tt_ci o < 6 := by rw [ho]; exact (List.getElem?_eq_some_iff.mp e1).1
  have hE := tt_ws_get G st (tt_ci_lt hlt)
  rw [tt_E_obj hlt, ho] at hE
  have hv : (tt_fs G st o)[f]? = some (.int (tt_I st o f)) := by
    rw [tt_fs_get (by rw [ho, e3]; exact e2)]
    simp [tt_fv, ho, hk]
  exact va_get hx hb hts e6 hown hK hP o hE e1 f e2 (hts _ e4) (by rw [e5]; exact fun _ h => h) hv hd (k H locs ls hP hS hl)
theorem r_getR {index ci f o r : Nat} (hC : tt_Cx G κ cc own nL fr lo) (hd : decode cc pc = .ok (.getfield index, 3)) (hf : tt_FL own index ci f) (hk : tt_kd ci f = 1) (ho : tt_ci o = ci) (hr : tt_R o f = r) (k : tt_V G κ T st (pc + 3) lv (.ref (tt_ad G r) :: rest)) : tt_V G κ T st pc lv (.ref (tt_ad G o) :: rest) := by
  obtain ⟨hx, hb, hml, hnL, hown, hts, hK, hJ, hSx, q1, q2, q3, q4⟩ := hC; intro H locs ls hP hS hl
  obtain ⟨C, F, N, e1, e2, e3, e4, e5, e6⟩ := hf
  have hlt : tt_ci o < 6 := by rw [ho]; exact (List.getElem?_eq_some_iff.mp e1).1
  have hE := tt_ws_get G st (tt_ci_lt hlt)
  rw [tt_E_obj hlt, ho] at hE
  have hv : (tt_fs G st o)[f]? = some (.ref (tt_ad G r)) := by
    rw [tt_fs_get (by rw [ho, e3]; exact e2)]
    simp [tt_fv, ho, hk, hr]
  exact va_get hx hb hts e6 hown hK hP o hE e1 f e2 (hts _ e4) (by rw [e5]; exact fun _ h => h) hv hd (k H locs ls hP hS hl)
theorem r_getL {index ci f o : Nat} (hC : tt_Cx G κ cc own nL fr lo) (hd : decode cc pc = .ok (.getfield index, 3)) (hf : tt_FL own index ci f) (hk : tt_kd ci f = 2) (ho : tt_ci o = ci) (k : tt_V G κ T st (pc + 3) lv (.long (tt_L st o f) :: rest)) : tt_V G κ T st pc lv (.ref (tt_ad G o) :: rest) := by
  obtain ⟨hx, hb, hml, hnL, hown, hts, hK, hJ, hSx, q1, q2, q3, q4⟩ := hC; intro H locs ls hP hS hl
  obtain ⟨C, F, N, e1, e2, e3, e4, e5, e6⟩ := hf
  have hlt : tt_ci o < 6 := by rw [ho]; exact (List.getElem?_eq_some_iff.mp e1).1
  have hE := tt_ws_get G st (tt_ci_lt hlt)
  rw [tt_E_obj hlt, ho] at hE
  have hv : (tt_fs G st o)[f]? = some (.long (tt_L st o f)) := by
    rw [tt_fs_get (by rw [ho, e3]; exact e2)]
    simp [tt_fv, ho, hk]
  exact va_get hx hb hts e6 hown hK hP o hE e1 f e2 (hts _ e4) (by rw [e5]; exact fun _ h => h) hv hd (k H locs ls hP hS hl)
/-- what a store into this field asks -/
def tt_FP (ci f : Nat) (ty : FieldType) : Prop := ∃ (C : String) (F : u_T) (N : Nat) (ty0 : Nat → FieldType), tt_cl[ci]? = some (C, F, N) ∧ (∀ k, k < N → parseFieldDescriptor (F k).2.2.1 = some (ty0 k)) ∧ (∀ a, a < N → ∀ b, b < N → a ≠ b → (F a).2.1 ≠ (F b).2.1) ∧ (F f).2.2.2 = false ∧ parseFieldDescriptor (F f).2.2.1 = some ty
theorem r_putI {index ci f o : Nat} {v : Int32} {ty : FieldType} (hC : tt_Cx G κ cc own nL fr lo) (hd : decode cc pc = .ok (.putfield index, 3)) (hf : tt_FL own index ci f) (hp : tt_FP ci f ty) (hk : tt_kd ci f = 0) (ho : tt_ci o = ci) (hn : narrow ty (.int v) = .int v) (hfit : fits ty (.int v) = true) (k : tt_V G κ T (tt_pI st o f v) (pc + 3) lv rest) : tt_V G κ T st pc lv (.int v :: .ref (tt_ad G o) :: rest) := by
  obtain ⟨hx, hb, hml, hnL, hown, hts, hK, hJ, hSx, q1, q2, q3, q4⟩ := hC; intro H locs ls hP hS hl
  obtain ⟨C, F, N, e1, e2, e3, e4, e5, e6⟩ := hf
  obtain ⟨C', F', N', ty0, p1, p2, p3, p4, p5⟩ := hp
  cases e1.symm.trans p1
  have hlt : tt_ci o < 6 := by rw [ho]; exact (List.getElem?_eq_some_iff.mp e1).1
  have hE := tt_ws_get G st (tt_ci_lt hlt)
  rw [tt_E_obj hlt, ho] at hE
  have hset : (tt_ws G st).set o (tt_ad G o, .inr (ci, (tt_fs G st o).set f (.int v))) = tt_ws G (tt_pI st o f v) := by
    rw [← tt_ws_set (st := st) (st' := tt_pI st o f v) (tt_ci_lt hlt) (fun j hj => tt_E_pI hj), tt_E_obj hlt, tt_fs_pI (by rw [ho]; exact hk), ho]
  refine va_put hx hb hts e6 ty0 p2 p3 hown hK hP (tt_D hJ st) hS o hE e1 f e2 (hts _ e4) (by rw [e5]; exact fun _ h => h) p4 p5 hn hfit (by rw [tt_fs_len, ho, e3]; exact e2) hd (fun H1 locs1 hP1 hD1 hS1 => ?_)
  rw [hset] at hP1
  exact k H1 locs1 ls hP1 hS1 hl
theorem r_putL {index ci f o : Nat} {v : Int64} (hC : tt_Cx G κ cc own nL fr lo) (hd : decode cc pc = .ok (.putfield index, 3)) (hf : tt_FL own index ci f) (hp : tt_FP ci f .long) (hk : tt_kd ci f = 2) (ho : tt_ci o = ci) (k : tt_V G κ T (tt_pL st o f v) (pc + 3) lv rest) : tt_V G κ T st pc lv (.long v :: .ref (tt_ad G o) :: rest) := by
  obtain ⟨hx, hb, hml, hnL, hown, hts, hK, hJ, hSx, q1, q2, q3, q4⟩ := hC; intro H locs ls hP hS hl
  obtain ⟨C, F, N, e1, e2, e3, e4, e5, e6⟩ := hf
  obtain ⟨C', F', N', ty0, p1, p2, p3, p4, p5⟩ := hp
  cases e1.symm.trans p1
  have hlt : tt_ci o < 6 := by rw [ho]; exact (List.getElem?_eq_some_iff.mp e1).1
  have hE := tt_ws_get G st (tt_ci_lt hlt)
  rw [tt_E_obj hlt, ho] at hE
  have hset : (tt_ws G st).set o (tt_ad G o, .inr (ci, (tt_fs G st o).set f (.long v))) = tt_ws G (tt_pL st o f v) := by
    rw [← tt_ws_set (st := st) (st' := tt_pL st o f v) (tt_ci_lt hlt) (fun j hj => tt_E_pL hj), tt_E_obj hlt, tt_fs_pL (by rw [ho]; exact hk), ho]
  refine va_put hx hb hts e6 ty0 p2 p3 hown hK hP (tt_D hJ st) hS o hE e1 f e2 (hts _ e4) (by rw [e5]; exact fun _ h => h) p4 p5 rfl rfl (by rw [tt_fs_len, ho, e3]; exact e2) hd (fun H1 locs1 hP1 hD1 hS1 => ?_)
  rw [hset] at hP1
  exact k H1 locs1 ls hP1 hS1 hl
/-! arrays -/
theorem tt_E_arr {G : tt_G} {st : tt_St} {o t n : Nat} (ho : tt_ci o = 9) (ht : tt_at o = t) (h1 : t ≤ 1) (hn : tt_len o = n) : tt_E G st o = .inl (tt_cA G t, n, .inl (tt_A st o)) := by
  rw [tt_E, if_neg (by omega), if_pos (by omega), ht, hn]
theorem r_iald {o n : Nat} {i : Int32} (hC : tt_Cx G κ cc own nL fr lo) (hd : decode cc pc = .ok (.iaload, 1)) (ho : tt_ci o = 9) (ho2 : o < 76) (ht : tt_at o = 0) (hn : tt_len o = n) (hi : vp_in i n) (k : tt_V G κ T st (pc + 1) lv (.int (tt_A st o i.toNatClampNeg) :: rest)) : tt_V G κ T st pc lv (.int i :: .ref (tt_ad G o) :: rest) := by
  obtain ⟨hx, hb, hml, hnL, hown, hts, hK, hJ, hSx, q1, q2, q3, q4⟩ := hC; intro H locs ls hP hS hl
  have hE := tt_ws_get G st ho2
  rw [tt_E_arr ho ht (by omega) hn] at hE
  exact va_iald hx hb hK hP o 0 hE rfl hi hd (k H locs ls hP hS hl)
theorem r_bald {o n : Nat} {i : Int32} (hC : tt_Cx G κ cc own nL fr lo) (hd : decode cc pc = .ok (.baload, 1)) (ho : tt_ci o = 9) (ho2 : o < 76) (ht : tt_at o = 1) (hn : tt_len o = n) (hi : vp_in i n) (k : tt_V G κ T st (pc + 1) lv (.int (tt_A st o i.toNatClampNeg) :: rest)) : tt_V G κ T st pc lv (.int i :: .ref (tt_ad G o) :: rest) := by
  obtain ⟨hx, hb, hml, hnL, hown, hts, hK, hJ, hSx, q1, q2, q3, q4⟩ := hC; intro H locs ls hP hS hl
  have hE := tt_ws_get G st ho2
  rw [tt_E_arr ho ht (by omega) hn] at hE
  exact va_bald hx hb hK hP o 1 hE rfl hi hd (k H locs ls hP hS hl)
theorem tt_set_arr {G : tt_G} {st : tt_St} {o t n i : Nat} {v : Int32} (ho : tt_ci o = 9) (ho2 : o < 76) (ht : tt_at o = t) (h1 : t ≤ 1) (hn : tt_len o = n) : (tt_ws G st).set o (tt_ad G o, .inl (tt_cA G t, n, .inl (upd (tt_A st o) i v))) = tt_ws G (tt_pA st o i v) := by
  rw [← tt_ws_set (st := st) (st' := tt_pA st o i v) ho2 (fun j hj => tt_E_pA hj), tt_E_arr ho ht h1 hn, tt_A_pA]
theorem r_iast {o n : Nat} {i v : Int32} (hC : tt_Cx G κ cc own nL fr lo) (hd : decode cc pc = .ok (.iastore, 1)) (ho : tt_ci o = 9) (ho2 : o < 76) (ht : tt_at o = 0) (hn : tt_len o = n) (hi : vp_in i n) (k : tt_V G κ T (tt_pA st o i.toNatClampNeg v) (pc + 1) lv rest) : tt_V G κ T st pc lv (.int v :: .int i :: .ref (tt_ad G o) :: rest) := by
  obtain ⟨hx, hb, hml, hnL, hown, hts, hK, hJ, hSx, q1, q2, q3, q4⟩ := hC; intro H locs ls hP hS hl
  have hE := tt_ws_get G st ho2
  rw [tt_E_arr ho ht (by omega) hn] at hE
  refine va_iast hx hb hK hP (tt_D hJ st) hS o 0 hE rfl hi hd (fun H1 locs1 hP1 hD1 hS1 => ?_)
  rw [tt_set_arr ho ho2 ht (by omega) hn] at hP1
  exact k H1 locs1 ls hP1 hS1 hl
theorem r_bast {o n : Nat} {i v : Int32} (hC : tt_Cx G κ cc own nL fr lo) (hd : decode cc pc = .ok (.bastore, 1)) (ho : tt_ci o = 9) (ho2 : o < 76) (ht : tt_at o = 1) (hn : tt_len o = n) (hi : vp_in i n) (k : tt_V G κ T (tt_pA st o i.toNatClampNeg (vp_nar .byte v)) (pc + 1) lv rest) : tt_V G κ T st pc lv (.int v :: .int i :: .ref (tt_ad G o) :: rest) := by
  obtain ⟨hx, hb, hml, hnL, hown, hts, hK, hJ, hSx, q1, q2, q3, q4⟩ := hC; intro H locs ls hP hS hl
  have hE := tt_ws_get G st ho2
  rw [tt_E_arr ho ht (by omega) hn] at hE
  refine va_bast hx hb hK hP (tt_D hJ st) hS o 1 hE rfl hi hd (fun H1 locs1 hP1 hD1 hS1 => ?_)
  rw [tt_set_arr ho ho2 ht (by omega) hn] at hP1
  exact k H1 locs1 ls hP1 hS1 hl
theorem r_alen {o n : Nat} {v : Int32} (hC : tt_Cx G κ cc own nL fr lo) (hd : decode cc pc = .ok (.arraylength, 1)) (ho : tt_ci o = 9) (ho2 : o < 76) (ht : tt_at o = 0) (hn : tt_len o = n) (hv : Int32.ofNat n = v) (k : tt_V G κ T st (pc + 1) lv (.int v :: rest)) : tt_V G κ T st pc lv (.ref (tt_ad G o) :: rest) := by
  obtain ⟨hx, hb, hml, hnL, hown, hts, hK, hJ, hSx, q1, q2, q3, q4⟩ := hC; intro H locs ls hP hS hl
  have hE := tt_ws_get G st ho2
  rw [tt_E_arr ho ht (by omega) hn] at hE
  exact va_alen hx hb hK hP o 0 hE (ty := .int) rfl hv hd (k H locs ls hP hS hl)
theorem tt_E_ref {G : tt_G} {st : tt_St} {o t n : Nat} (ho : tt_ci o = 9) (ht : tt_at o = t) (h1 : 1 < t) (hn : tt_len o = n) : tt_E G st o = .inl (tt_cA G t, n, .inr (.inr (.inr (.inr (fun j => some (tt_ad G (tt_RA o j))))))) := by
  rw [tt_E, if_neg (by omega), if_neg (by omega), ht, hn]
theorem r_aald {o n t r : Nat} {i : Int32} {C : String} (hC : tt_Cx G κ cc own nL fr lo) (hd : decode cc pc = .ok (.aaload, 1)) (ho : tt_ci o = 9) (ho2 : o < 76) (ht : tt_at o = t) (h1 : 1 < t) (hC2 : ∀ G : tt_G, (tt_tys G)[t]? = some (tt_cA G t, .object C)) (hn : tt_len o = n) (hi : vp_in i n) (hr : tt_RA o i.toNatClampNeg = r) (k : tt_V G κ T st (pc + 1) lv (.ref (tt_ad G r) :: rest)) : tt_V G κ T st pc lv (.int i :: .ref (tt_ad G o) :: rest) := by
  obtain ⟨hx, hb, hml, hnL, hown, hts, hK, hJ, hSx, q1, q2, q3, q4⟩ := hC; intro H locs ls hP hS hl
  have hE := tt_ws_get G st ho2
  rw [tt_E_ref ho ht h1 hn] at hE
  refine va_aldq hx hb hK hP o t hE (hC2 G) hi hd ?_
  rw [hr]
  exact k H locs ls hP hS hl
/-! statics -/
theorem r_gets {index j : Nat} (hC : tt_Cx G κ cc own nL fr lo) (hd : decode cc pc = .ok (.getstatic index, 3)) (hj : j < 3) (hw : Cond.fieldLink own index "TideTable" (tt_sN j) "[I" ∈ tt_good) (k : tt_V G κ T st (pc + 3) lv (.ref (tt_sa G j) :: rest)) : tt_V G κ T st pc lv rest := by
  obtain ⟨hx, hb, hml, hnL, hown, hts, hK, hJ, hSx, q1, q2, q3, q4⟩ := hC; intro H locs ls hP hS hl
  exact va_gets hx hb (hSx.1 j hj).1 hS hown (hts _ hw) (fun _ h => h) hd (k H locs ls hP hS hl)
theorem r_tald {j : Nat} {i : Int32} (hC : tt_Cx G κ cc own nL fr lo) (hd : decode cc pc = .ok (.iaload, 1)) (hj : j < 3) (hi : vp_in i (tt_sn j)) (k : tt_V G κ T st (pc + 1) lv (.int (tt_sv j i.toNatClampNeg) :: rest)) : tt_V G κ T st pc lv (.int i :: .ref (tt_sa G j) :: rest) := by
  obtain ⟨hx, hb, hml, hnL, hown, hts, hK, hJ, hSx, q1, q2, q3, q4⟩ := hC; intro H locs ls hP hS hl
  exact va_ti hx hb (hSx.1 j hj).2 hS hi rfl hd (k H locs ls hP hS hl)
theorem r_tlen {j : Nat} {v : Int32} (hC : tt_Cx G κ cc own nL fr lo) (hd : decode cc pc = .ok (.arraylength, 1)) (hj : j < 3) (hv : Int32.ofNat (tt_sn j) = v) (k : tt_V G κ T st (pc + 1) lv (.int v :: rest)) : tt_V G κ T st pc lv (.ref (tt_sa G j) :: rest) := by
  obtain ⟨hx, hb, hml, hnL, hown, hts, hK, hJ, hSx, q1, q2, q3, q4⟩ := hC; intro H locs ls hP hS hl
  exact va_tlen hx hb (hSx.1 j hj).2 hS hv hd (k H locs ls hP hS hl)
/-! ends -/
theorem r_iret {v : Int32} {ty : FieldType} {mk : α → Option Value × tt_St} (hC : tt_Cx G κ cc own nL fr lo) (hR : tt_Rt G κ (some ty) mk) (hd : decode cc pc = .ok (.ireturn, 1)) (hn : narrow ty (.int v) = .int v) (hT : mk T = (some (.int v), st)) : tt_V G κ T st pc lv [.int v] := by
  obtain ⟨hx, hb, hml, hnL, hown, hts, hK, hJ, hSx, q1, q2, q3, q4⟩ := hC; intro H locs ls hP hS hl
  obtain ⟨r1, r2, r3, r4⟩ := hR
  show W _ _ _ _ _ _ _ _ _ _ _ _ _ _ _ _
  rw [r4, r3, hT]
  exact W.zret hx hb r1 hn (fun t ht hW => ⟨rfl, by rw [ht]; exact hP, hS.F ht⟩) hS.2.2 hd r2
theorem r_lret {v : Int64} {mk : α → Option Value × tt_St} (hC : tt_Cx G κ cc own nL fr lo) (hR : tt_Rt G κ (some .long) mk) (hd : decode cc pc = .ok (.lreturn, 1)) (hT : mk T = (some (.long v), st)) : tt_V G κ T st pc lv [.long v] := by
  obtain ⟨hx, hb, hml, hnL, hown, hts, hK, hJ, hSx, q1, q2, q3, q4⟩ := hC; intro H locs ls hP hS hl
  obtain ⟨r1, r2, r3, r4⟩ := hR
  show W _ _ _ _ _ _ _ _ _ _ _ _ _ _ _ _
  rw [r4, r3, hT]
  exact W.lret hx hb r1 (fun t ht hW => ⟨rfl, by rw [ht]; exact hP, hS.F ht⟩) hS.2.2 hd r2
theorem r_vret {mk : α → Option Value × tt_St} (hC : tt_Cx G κ cc own nL fr lo) (hR : tt_Rt G κ none mk) (hd : decode cc pc = .ok (.return_, 1)) (hT : mk T = (none, st)) : tt_V G κ T st pc lv [] := by
  obtain ⟨hx, hb, hml, hnL, hown, hts, hK, hJ, hSx, q1, q2, q3, q4⟩ := hC; intro H locs ls hP hS hl
  obtain ⟨r1, r2, r3, r4⟩ := hR
  show W _ _ _ _ _ _ _ _ _ _ _ _ _ _ _ _
  rw [r4, r3, hT]
  exact W.vret hx hb r1 (fun t ht hW => ⟨rfl, by rw [ht]; exact hP, hS.F ht⟩) hS.2.2 hd r2

end TR

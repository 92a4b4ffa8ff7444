/-! objects in the making -/
abbrev zz_T : Type := ClassId × ClassId × ClassId × ClassId
def zz_tys (t : zz_T) : List (ClassId × FieldType) := [(t.1, .int), (t.2.1, .byte), (t.2.2.1, .object "TideTable$Port"), (t.2.2.2, .object "TideTable$Wave")]
def zz_S (Γ : va_G) (t : zz_T) (U : State) : Prop := va_K Γ tt_cl (zz_tys t) U ∧ va_AO "TideTable$Port" U ∧ va_AO "TideTable$Wave" U ∧ ∀ w ∈ tt_nest, va_Nw w U
theorem zz_S.go {Γ : va_G} {t : zz_T} {s U : State} (h : zz_S Γ t s) (hW : s.WarmedH U.vm) : zz_S Γ t U := by
  obtain ⟨h1, h2, h3, h4⟩ := h
  refine ⟨va_K.moved hW.alike h1, va_AO.moved hW.alike h2, va_AO.moved hW.alike h3, fun w hw => ?_⟩
  obtain ⟨a, i, x, h, rfl⟩ := tt_nest_shape w hw
  exact va_Nw.warmM hW (h4 _ hw)
theorem zz_S.blind {Γ : va_G} {t : zz_T} {U : State} (g : JFrame) (mk : MethodId) (a : Array Value) (h : zz_S Γ t U) : zz_S Γ t (U.calling g mk a) := by
  obtain ⟨h1, h2, h3, h4⟩ := h
  have hv : (U.calling g mk a).vm = U.vm := rfl
  refine ⟨va_K.moved (u := U) (U := U.calling g mk a) (Vm.Alike.refl U.vm) h1, va_AO.moved (u := U) (U := U.calling g mk a) (Vm.Alike.refl U.vm) h2, va_AO.moved (u := U) (U := U.calling g mk a) (Vm.Alike.refl U.vm) h3, fun w hw => ?_⟩
  obtain ⟨b, i, x, h, rfl⟩ := tt_nest_shape w hw
  exact va_Nw.same rfl hv.symm (h4 _ hw)
theorem zRA {U : State} {c c' : ClassId} {ty : FieldType} (h : va_RA U c ty) (h' : va_RA U c' ty) : c' = c := by
  cases ty with
  | object C =>
    obtain ⟨_, _, _, _, _, e⟩ := h
    obtain ⟨_, _, _, _, _, e'⟩ := h'
    exact Option.some.inj (e'.symm.trans e)
  | _ => exact Option.some.inj (Eq.trans (Eq.symm h') h)
def zV (Γ : va_G) (A : Nat → Prop) (κ : tt_X Unit) (ws : va_W) (ce sl pc : Nat) (lv : List (Nat × Value)) (stk : List Value) : Prop :=
  ∀ (H : Heap) (locs : List Loc) (ls : Array Slot), va_P Γ tt_cl ws H → va_D A ws → va_S A (tt_xs κ).heap H locs → lv_has ls (tt_xn κ) lv → W (tt_xp κ) (tt_xl κ) (tt_xe κ) (tt_xR κ) (tt_xs κ) (tt_xm κ) (tt_xa κ) (tt_xb κ) (tt_xM κ) (tt_xc κ) H locs ce sl (tt_xQ κ (tt_xk κ ())) (F0 (tt_xm κ) pc ls stk)
def zC (Γ : va_G) (t : zz_T) (A : Nat → Prop) (κ : tt_X Unit) (cc : ByteArray) (own : String) (nL : Nat) (rm : Room) : Prop :=
  (tt_xp κ).tables.exec = Jvm.exec ∧ (tt_xc κ).code = cc ∧ (tt_xc κ).maxLocals = nL ∧ tt_xn κ = nL ∧ (tt_xs κ).vm.findClass own = some (tt_xm κ).cls ∧ (∀ w ∈ tt_good, w.before (tt_xa κ) (tt_xs κ) = true) ∧ zz_S Γ t (tt_xs κ) ∧ (∀ q : Nat, (tt_xs κ).heap.size ≤ q → A q) ∧ tt_xR κ = rm
def zFF (ci f : Nat) (own : String) (ty : FieldType) : Prop := ∃ (C : String) (F : u_T) (N : Nat) (ty0 : Nat → FieldType), tt_cl[ci]? = some (C, F, N) ∧ (∀ k, k < N → parseFieldDescriptor (F k).2.2.1 = some (ty0 k)) ∧ (∀ a, a < N → ∀ b, b < N → a ≠ b → (F a).2.1 ≠ (F b).2.1) ∧ (F f).2.2.2 = true ∧ parseFieldDescriptor (F f).2.2.1 = some ty ∧ (F f).1 = own
section ZR
variable {Γ : va_G} {t : zz_T} {A : Nat → Prop} {κ : tt_X Unit} {ws : va_W} {ce sl pc : Nat} {lv : List (Nat × Value)} {rest : List Value} {cc : ByteArray} {own : String} {nL : Nat} {rm : Room}
theorem z_iconst {n : Int} {v : Int32} (hC : zC Γ t A κ cc own nL rm) (hd : decode cc pc = .ok (.iconst n, 1)) (hv : Int32.ofInt n = v) (k : zV Γ A κ ws ce sl (pc + 1) lv (.int v :: rest)) : zV Γ A κ ws ce sl pc lv rest := by
  obtain ⟨hx, hb, hml, hnL, hown, hts, hK, hA, hR⟩ := hC; intro H locs ls hP hD hS hl
  exact lv_iconst hx hb hd hv (k H locs ls hP hD hS hl)
theorem z_bipush {n : Int} {v : Int32} (hC : zC Γ t A κ cc own nL rm) (hd : decode cc pc = .ok (.bipush n, 2)) (hv : (Int8.ofInt n).toInt32 = v) (k : zV Γ A κ ws ce sl (pc + 2) lv (.int v :: rest)) : zV Γ A κ ws ce sl pc lv rest := by
  obtain ⟨hx, hb, hml, hnL, hown, hts, hK, hA, hR⟩ := hC; intro H locs ls hP hD hS hl
  exact lv_bipush hx hb hd hv (k H locs ls hP hD hS hl)
theorem z_sipush {n : Int} {v : Int32} (hC : zC Γ t A κ cc own nL rm) (hd : decode cc pc = .ok (.sipush n, 3)) (hv : (Int16.ofInt n).toInt32 = v) (k : zV Γ A κ ws ce sl (pc + 3) lv (.int v :: rest)) : zV Γ A κ ws ce sl pc lv rest := by
  obtain ⟨hx, hb, hml, hnL, hown, hts, hK, hA, hR⟩ := hC; intro H locs ls hP hD hS hl
  exact lv_sipush hx hb hd hv (k H locs ls hP hD hS hl)
theorem z_isub {x y : Int32} (hC : zC Γ t A κ cc own nL rm) (hd : decode cc pc = .ok (.isub, 1)) (k : zV Γ A κ ws ce sl (pc + 1) lv (.int (x - y) :: rest)) : zV Γ A κ ws ce sl pc lv (.int y :: .int x :: rest) := by
  obtain ⟨hx, hb, hml, hnL, hown, hts, hK, hA, hR⟩ := hC; intro H locs ls hP hD hS hl
  exact lv_isub hx hb hd (k H locs ls hP hD hS hl)
theorem z_ineg {x : Int32} (hC : zC Γ t A κ cc own nL rm) (hd : decode cc pc = .ok (.ineg, 1)) (k : zV Γ A κ ws ce sl (pc + 1) lv (.int (-x) :: rest)) : zV Γ A κ ws ce sl pc lv (.int x :: rest) := by
  obtain ⟨hx, hb, hml, hnL, hown, hts, hK, hA, hR⟩ := hC; intro H locs ls hP hD hS hl
  exact lv_ineg hx hb hd (k H locs ls hP hD hS hl)
theorem z_dup {va : Value} (hC : zC Γ t A κ cc own nL rm) (hd : decode cc pc = .ok (.dup, 1)) (hva : va.category = 1) (k : zV Γ A κ ws ce sl (pc + 1) lv (va :: va :: rest)) : zV Γ A κ ws ce sl pc lv (va :: rest) := by
  obtain ⟨hx, hb, hml, hnL, hown, hts, hK, hA, hR⟩ := hC; intro H locs ls hP hD hS hl
  exact lv_dup hx hb hd hva (k H locs ls hP hD hS hl)
theorem z_goto {off : Int} {tgt : Nat} (hC : zC Γ t A κ cc own nL rm) (hd : decode cc pc = .ok (.goto off, 3)) (ht : (pc : Int) + off = (tgt : Int)) (k : zV Γ A κ ws ce sl tgt lv rest) : zV Γ A κ ws ce sl pc lv rest := by
  obtain ⟨hx, hb, hml, hnL, hown, hts, hK, hA, hR⟩ := hC; intro H locs ls hP hD hS hl
  exact lv_goto hx hb hd ht (k H locs ls hP hD hS hl)
theorem z_icmp_ge {x y : Int32} {off : Int} {tgt : Nat} (hC : zC Γ t A κ cc own nL rm) (hd : decode cc pc = .ok (.if_icmp .ge off, 3)) (ht : (pc : Int) + off = (tgt : Int)) (kt : y ≤ x → zV Γ A κ ws ce sl tgt lv rest) (kf : ¬ y ≤ x → zV Γ A κ ws ce sl (pc + 3) lv rest) : zV Γ A κ ws ce sl pc lv (.int y :: .int x :: rest) := by
  obtain ⟨hx, hb, hml, hnL, hown, hts, hK, hA, hR⟩ := hC; intro H locs ls hP hD hS hl
  exact lv_icmp_ge hx hb hd ht (fun c => kt c H locs ls hP hD hS hl) (fun c => kf c H locs ls hP hD hS hl)
theorem z_icmp_gt {x y : Int32} {off : Int} {tgt : Nat} (hC : zC Γ t A κ cc own nL rm) (hd : decode cc pc = .ok (.if_icmp .gt off, 3)) (ht : (pc : Int) + off = (tgt : Int)) (kt : y < x → zV Γ A κ ws ce sl tgt lv rest) (kf : ¬ y < x → zV Γ A κ ws ce sl (pc + 3) lv rest) : zV Γ A κ ws ce sl pc lv (.int y :: .int x :: rest) := by
  obtain ⟨hx, hb, hml, hnL, hown, hts, hK, hA, hR⟩ := hC; intro H locs ls hP hD hS hl
  exact lv_icmp_gt hx hb hd ht (fun c => kt c H locs ls hP hD hS hl) (fun c => kf c H locs ls hP hD hS hl)
theorem z_icmp_le {x y : Int32} {off : Int} {tgt : Nat} (hC : zC Γ t A κ cc own nL rm) (hd : decode cc pc = .ok (.if_icmp .le off, 3)) (ht : (pc : Int) + off = (tgt : Int)) (kt : x ≤ y → zV Γ A κ ws ce sl tgt lv rest) (kf : ¬ x ≤ y → zV Γ A κ ws ce sl (pc + 3) lv rest) : zV Γ A κ ws ce sl pc lv (.int y :: .int x :: rest) := by
  obtain ⟨hx, hb, hml, hnL, hown, hts, hK, hA, hR⟩ := hC; intro H locs ls hP hD hS hl
  exact lv_icmp_le hx hb hd ht (fun c => kt c H locs ls hP hD hS hl) (fun c => kf c H locs ls hP hD hS hl)
theorem z_iload_n {q : Fin 4} {x : Int32} (i : Nat) (hC : zC Γ t A κ cc own nL rm) (hd : decode cc pc = .ok (.iload_n q, 1)) (hk : lv[i]? = some ((q : Nat), .int x)) (k : zV Γ A κ ws ce sl (pc + 1) lv (.int x :: rest)) : zV Γ A κ ws ce sl pc lv rest := by
  obtain ⟨hx, hb, hml, hnL, hown, hts, hK, hA, hR⟩ := hC; intro H locs ls hP hD hS hl
  exact lv_iload_n hx hb hd rfl (lv_at hl i hk) (k H locs ls hP hD hS hl)
theorem z_aload_n {q : Fin 4} {x : Nat} (i : Nat) (hC : zC Γ t A κ cc own nL rm) (hd : decode cc pc = .ok (.aload_n q, 1)) (hk : lv[i]? = some ((q : Nat), .ref x)) (k : zV Γ A κ ws ce sl (pc + 1) lv (.ref x :: rest)) : zV Γ A κ ws ce sl pc lv rest := by
  obtain ⟨hx, hb, hml, hnL, hown, hts, hK, hA, hR⟩ := hC; intro H locs ls hP hD hS hl
  exact lv_aload_n hx hb hd rfl (lv_at hl i hk) (k H locs ls hP hD hS hl)
theorem z_istore_n {q : Fin 4} {j : Nat} {x : Int32} (lv' : List (Nat × Value)) (hC : zC Γ t A κ cc own nL rm) (hd : decode cc pc = .ok (.istore_n q, 1)) (hj : (q : Nat) = j) (hn : j < nL) (hl' : (j, Value.int x) :: lv.filter (fun q => !(q.1 == j) && !(q.1 + 1 == j && q.2.category == 2)) = lv') (k : zV Γ A κ ws ce sl (pc + 1) lv' rest) : zV Γ A κ ws ce sl pc lv (.int x :: rest) := by
  obtain ⟨hx, hb, hml, hnL, hown, hts, hK, hA, hR⟩ := hC; intro H locs ls hP hD hS hl
  exact lv_istore_n hx hb hd hj hl (by rw [hnL]; exact hn) hl' (fun ls' h' => k H locs ls' hP hD hS h')
theorem z_astore_n {q : Fin 4} {j : Nat} {x : Nat} (lv' : List (Nat × Value)) (hC : zC Γ t A κ cc own nL rm) (hd : decode cc pc = .ok (.astore_n q, 1)) (hj : (q : Nat) = j) (hn : j < nL) (hl' : (j, Value.ref x) :: lv.filter (fun q => !(q.1 == j) && !(q.1 + 1 == j && q.2.category == 2)) = lv') (k : zV Γ A κ ws ce sl (pc + 1) lv' rest) : zV Γ A κ ws ce sl pc lv (.ref x :: rest) := by
  obtain ⟨hx, hb, hml, hnL, hown, hts, hK, hA, hR⟩ := hC; intro H locs ls hP hD hS hl
  exact lv_astore_n hx hb hd hj hl (by rw [hnL]; exact hn) hl' (fun ls' h' => k H locs ls' hP hD hS h')
theorem z_iinc {j : Nat} {n : Int} {x : Int32} (i : Nat) (v : Int32) (lv' : List (Nat × Value)) (hC : zC Γ t A κ cc own nL rm) (hd : decode cc pc = .ok (.iinc j n, 3)) (hk : lv[i]? = some (j, .int x)) (hv : x + Int32.ofInt n = v) (hn : j < nL) (hl' : (j, Value.int v) :: lv.filter (fun q => !(q.1 == j) && !(q.1 + 1 == j && q.2.category == 2)) = lv') (k : zV Γ A κ ws ce sl (pc + 3) lv' rest) : zV Γ A κ ws ce sl pc lv rest := by
  obtain ⟨hx, hb, hml, hnL, hown, hts, hK, hA, hR⟩ := hC; intro H locs ls hP hD hS hl
  exact lv_iinc hx hb hd hl hk hv (by rw [hnL]; exact hn) hl' (fun ls' h' => k H locs ls' hP hD hS h')
theorem z_tabOut {dflt lo1 hi1 : Int} {offs : Array Int} {len : Nat} {x : Int32} {tgt : Nat} (hC : zC Γ t A κ cc own nL rm) (hd : decode cc pc = .ok (.tableswitch dflt lo1 hi1 offs, len)) (h : x.toInt < lo1 ∨ hi1 < x.toInt) (ht : (pc : Int) + dflt = (tgt : Int)) (k : zV Γ A κ ws ce sl tgt lv rest) : zV Γ A κ ws ce sl pc lv (.int x :: rest) := by
  obtain ⟨hx, hb, hml, hnL, hown, hts, hK, hA, hR⟩ := hC; intro H locs ls hP hD hS hl
  exact lv_tableOut hx hb hd h ht (k H locs ls hP hD hS hl)
theorem z_tabIn {dflt lo1 hi1 : Int} {offs : Array Int} {len : Nat} {x : Int32} {off : Int} {tgt : Nat} (hC : zC Γ t A κ cc own nL rm) (hd : decode cc pc = .ok (.tableswitch dflt lo1 hi1 offs, len)) (h1 : ¬ x.toInt < lo1) (h2 : ¬ hi1 < x.toInt) (ho : offs[(x.toInt - lo1).toNat]? = some off) (ht : (pc : Int) + off = (tgt : Int)) (k : zV Γ A κ ws ce sl tgt lv rest) : zV Γ A κ ws ce sl pc lv (.int x :: rest) := by
  obtain ⟨hx, hb, hml, hnL, hown, hts, hK, hA, hR⟩ := hC; intro H locs ls hP hD hS hl
  exact lv_tableIn hx hb hd h1 h2 ho ht (k H locs ls hP hD hS hl)
theorem z_get {index ci f a : Nat} {fs : List Value} {v : Value} (q0 : Nat) (hC : zC Γ t A κ cc own nL rm) (hd : decode cc pc = .ok (.getfield index, 3)) (hf : tt_FL own index ci f) (he : ws[q0]? = some (a, .inr (ci, fs))) (hv : fs[f]? = some v) (k : zV Γ A κ ws ce sl (pc + 3) lv (v :: rest)) : zV Γ A κ ws ce sl pc lv (.ref a :: rest) := by
  obtain ⟨hx, hb, hml, hnL, hown, hts, hK, hA, hR⟩ := hC; intro H locs ls hP hD hS hl
  obtain ⟨C, F, N, e1, e2, e3, e4, e5, e6⟩ := hf
  exact va_get hx hb hts e6 hown hK.1 hP q0 he e1 f e2 (hts _ e4) (by rw [e5]; exact fun _ h => h) hv hd (k H locs ls hP hD hS hl)
theorem z_put {index ci f a : Nat} {fs : List Value} {v : Value} {ty : FieldType} (q0 : Nat) (ws' : va_W) (hC : zC Γ t A κ cc own nL rm) (hd : decode cc pc = .ok (.putfield index, 3)) (hf : tt_FL own index ci f) (hp : tt_FP ci f ty) (he : ws[q0]? = some (a, .inr (ci, fs))) (hn : narrow ty v = v) (hfit : fits ty v = true) (hlen : f < fs.length) (hws : ws.set q0 (a, .inr (ci, fs.set f v)) = ws') (k : zV Γ A κ ws' ce sl (pc + 3) lv rest) : zV Γ A κ ws ce sl pc lv (v :: .ref a :: rest) := by
  subst hws
  obtain ⟨hx, hb, hml, hnL, hown, hts, hK, hA, hR⟩ := hC; intro H locs ls hP hD hS hl
  obtain ⟨C, F, N, e1, e2, e3, e4, e5, e6⟩ := hf
  obtain ⟨C', F', N', ty0, g1, g2, g3, g4, g5⟩ := hp
  obtain ⟨rfl, rfl, rfl⟩ : C = C' ∧ F = F' ∧ N = N' := by
    have := e1.symm.trans g1
    simp only [Option.some.injEq, Prod.mk.injEq] at this
    exact this
  exact va_put hx hb hts e6 ty0 g2 g3 hown hK.1 hP hD hS q0 he e1 f e2 (hts _ e4) (by rw [e5]; exact fun _ h => h) g4 g5 hn hfit hlen hd (fun H1 locs1 hP hD hS => k H1 locs1 ls hP hD hS hl)
theorem z_putF {index ci f a : Nat} {fs : List Value} {v : Value} {ty : FieldType} (q0 : Nat) (ws' : va_W) (hC : zC Γ t A κ cc own nL rm) (hI : (tt_xM κ).name = "<init>") (hd : decode cc pc = .ok (.putfield index, 3)) (hf : tt_FL own index ci f) (hp : zFF ci f own ty) (he : ws[q0]? = some (a, .inr (ci, fs))) (hn : narrow ty v = v) (hfit : fits ty v = true) (hlen : f < fs.length) (hws : ws.set q0 (a, .inr (ci, fs.set f v)) = ws') (k : zV Γ A κ ws' ce sl (pc + 3) lv rest) : zV Γ A κ ws ce sl pc lv (v :: .ref a :: rest) := by
  subst hws
  obtain ⟨hx, hb, hml, hnL, hown, hts, hK, hA, hR⟩ := hC; intro H locs ls hP hD hS hl
  obtain ⟨C, F, N, e1, e2, e3, e4, e5, e6⟩ := hf
  obtain ⟨C', F', N', ty0, g1, g2, g3, g4, g5, g6⟩ := hp
  obtain ⟨rfl, rfl, rfl⟩ : C = C' ∧ F = F' ∧ N = N' := by
    have := e1.symm.trans g1
    simp only [Option.some.injEq, Prod.mk.injEq] at this
    exact this
  exact va_putF hx hb hts e6 ty0 g2 g3 hown hK.1 hP hD hS q0 he e1 f e2 (hts _ e4) (by rw [e5]; exact fun _ h => h) g4 hI g6 g5 hn hfit hlen hd (fun H1 locs1 hP hD hS => k H1 locs1 ls hP hD hS hl)
theorem z_new {C : String} {F : u_T} {N ci index : Nat} {fs : List Value} {ty0 : Nat → FieldType} (hC : zC Γ t A κ cc own nL rm) (hd : decode cc pc = .ok (.new index, 3)) (hin : ∀ w ∈ u_ws C F N, w ∈ tt_good) (hty : ∀ k, k < N → parseFieldDescriptor (F k).2.2.1 = some (ty0 k)) (hcl : Cond.classLink own index C ∈ tt_good) (hinst : Cond.instantiable C N ∈ tt_good) (hini : Cond.initialized C ∈ tt_good) (hc : tt_cl[ci]? = some (C, F, N)) (hfs : ∀ j, j < N → defaultValue (ty0 j) = vp_V fs j) (hr : (Nat.ble (ce + 1) rm.cells && Nat.ble (sl + N) rm.slots) = true) (k : ∀ q : Nat, zV Γ A κ (ws ++ [(q, .inr (ci, fs))]) (ce + 1) (sl + N) (pc + 3) lv (.ref q :: rest)) : zV Γ A κ ws ce sl pc lv rest := by
  obtain ⟨hx, hb, hml, hnL, hown, hts, hK, hA, hR⟩ := hC; intro H locs ls hP hD hS hl
  rw [Bool.and_eq_true] at hr
  have r1 := Nat.le_of_ble_eq_true hr.1
  have r2 := Nat.le_of_ble_eq_true hr.2
  rw [← hR] at r1 r2
  exact va_new hx hb hts hin ty0 hty hown (hts _ hcl) (hts _ hinst) (hts _ hini) hK.1 hP hD hS hA hc hfs r1 r2 hd (fun q H1 hP hD hS => k q H1 locs ls hP hD hS hl)
theorem z_newI {n : Int32} (N' : Nat) (hC : zC Γ t A κ cc own nL rm) (hd : decode cc pc = .ok (.newarray .int, 2)) (hn : ¬ n < 0) (hN : n.toNatClampNeg = N') (hby : Nat.ble (N' * componentBytes .int) 536870912 = true) (hw : Cond.arrayClass .int ∈ tt_good) (hr : (Nat.ble (ce + 1) rm.cells && Nat.ble (sl + N') rm.slots) = true) (k : ∀ q : Nat, zV Γ A κ (ws ++ [(q, .inl (t.1, N', .inl (fun _ => 0)))]) (ce + 1) (sl + N') (pc + 2) lv (.ref q :: rest)) : zV Γ A κ ws ce sl pc lv (.int n :: rest) := by
  obtain ⟨hx, hb, hml, hnL, hown, hts, hK, hA, hR⟩ := hC; intro H locs ls hP hD hS hl
  rw [Bool.and_eq_true] at hr
  have r1 := Nat.le_of_ble_eq_true hr.1
  have r2 := Nat.le_of_ble_eq_true hr.2
  rw [← hR] at r1 r2
  refine va_newa (atype := .int) (ty := .int) (a0 := (N', .inl (fun _ => 0))) hx hb (hts _ hw) rfl hK.1 hP hD hS hA (fun _ => rfl) hn hN (Nat.le_of_ble_eq_true hby) r1 r2 hd (fun q cA H1 hK1 hP1 hD1 hS1 => ?_)
  have e := zRA (hK.1.2 0 (t.1, .int) rfl).2 (hK1.2 4 (cA, .int) rfl).2
  subst e
  exact k q H1 locs ls hP1 hD1 hS1 hl
theorem z_newB {n : Int32} (N' : Nat) (hC : zC Γ t A κ cc own nL rm) (hd : decode cc pc = .ok (.newarray .byte, 2)) (hn : ¬ n < 0) (hN : n.toNatClampNeg = N') (hby : Nat.ble (N' * componentBytes .byte) 536870912 = true) (hw : Cond.arrayClass .byte ∈ tt_good) (hr : (Nat.ble (ce + 1) rm.cells && Nat.ble (sl + N') rm.slots) = true) (k : ∀ q : Nat, zV Γ A κ (ws ++ [(q, .inl (t.2.1, N', .inl (fun _ => 0)))]) (ce + 1) (sl + N') (pc + 2) lv (.ref q :: rest)) : zV Γ A κ ws ce sl pc lv (.int n :: rest) := by
  obtain ⟨hx, hb, hml, hnL, hown, hts, hK, hA, hR⟩ := hC; intro H locs ls hP hD hS hl
  rw [Bool.and_eq_true] at hr
  have r1 := Nat.le_of_ble_eq_true hr.1
  have r2 := Nat.le_of_ble_eq_true hr.2
  rw [← hR] at r1 r2
  refine va_newa (atype := .byte) (ty := .byte) (a0 := (N', .inl (fun _ => 0))) hx hb (hts _ hw) rfl hK.1 hP hD hS hA (fun _ => rfl) hn hN (Nat.le_of_ble_eq_true hby) r1 r2 hd (fun q cA H1 hK1 hP1 hD1 hS1 => ?_)
  have e := zRA (hK.1.2 1 (t.2.1, .byte) rfl).2 (hK1.2 4 (cA, .byte) rfl).2
  subst e
  exact k q H1 locs ls hP1 hD1 hS1 hl
theorem z_newQ {n : Int32} {index : Nat} {C : String} {c0 : ClassId} (N' x : Nat) (hC : zC Γ t A κ cc own nL rm) (hd : decode cc pc = .ok (.anewarray index, 3)) (hcl : Cond.classLink own index C ∈ tt_good) (hao : zz_S Γ t (tt_xs κ) → va_AO C (tt_xs κ)) (hx0 : (zz_tys t)[x]? = some (c0, .object C)) (hn : ¬ n < 0) (hN : n.toNatClampNeg = N') (hby : Nat.ble (N' * 4) 536870912 = true) (hr : (Nat.ble (ce + 1) rm.cells && Nat.ble (sl + N') rm.slots) = true) (k : ∀ q : Nat, zV Γ A κ (ws ++ [(q, .inl (c0, N', .inr (.inr (.inr (.inr (fun _ => none))))))]) (ce + 1) (sl + N') (pc + 3) lv (.ref q :: rest)) : zV Γ A κ ws ce sl pc lv (.int n :: rest) := by
  obtain ⟨hx, hb, hml, hnL, hown, hts, hK, hA, hR⟩ := hC; intro H locs ls hP hD hS hl
  rw [Bool.and_eq_true] at hr
  have r1 := Nat.le_of_ble_eq_true hr.1
  have r2 := Nat.le_of_ble_eq_true hr.2
  rw [← hR] at r1 r2
  refine va_newq hx hb hown (hts _ hcl) (hao hK) hK.1 hP hD hS hA hn hN (Nat.le_of_ble_eq_true hby) r1 r2 hd (fun q cA H1 hK1 hP1 hD1 hS1 => ?_)
  have e := zRA (hK.1.2 x (c0, .object C) hx0).2 (hK1.2 4 (cA, .object C) rfl).2
  subst e
  exact k q H1 locs ls hP1 hD1 hS1 hl
theorem z_astQ {a v n ci : Nat} {c0 : ClassId} {r : vw_C} {vs : List Value} {f : Nat → Option Nat} {i : Int32} (q0 x qk : Nat) (ws' : va_W) (hC : zC Γ t A κ cc own nL rm) (hd : decode cc pc = .ok (.aastore, 1)) (ha : ws[q0]? = some (a, .inl (c0, n, .inr (.inr (.inr (.inr f)))))) (hx0 : (zz_tys t)[x]? = some (c0, .object r.1)) (hv : ws[qk]? = some (v, .inr (ci, vs))) (hc : tt_cl[ci]? = some r) (hin : vp_in i n) (hws : ws.set q0 (a, .inl (c0, n, .inr (.inr (.inr (.inr (va_up f i.toNatClampNeg (some v))))))) = ws') (k : zV Γ A κ ws' ce sl (pc + 1) lv rest) : zV Γ A κ ws ce sl pc lv (.ref v :: .int i :: .ref a :: rest) := by
  subst hws
  obtain ⟨hx, hb, hml, hnL, hown, hts, hK, hA, hR⟩ := hC; intro H locs ls hP hD hS hl
  exact va_astq hx hb hK.1 hP hD hS q0 x qk ci ha hx0 hv hc hin hd (fun H1 locs1 hP hD hS => k H1 locs1 ls hP hD hS hl)
theorem z_astI {a n : Nat} {c0 : ClassId} {f : Nat → Int32} {i v : Int32} (q0 x : Nat) (ws' : va_W) (hC : zC Γ t A κ cc own nL rm) (hd : decode cc pc = .ok (.iastore, 1)) (ha : ws[q0]? = some (a, .inl (c0, n, .inl f))) (hx0 : (zz_tys t)[x]? = some (c0, .int)) (hin : vp_in i n) (hws : ws.set q0 (a, .inl (c0, n, .inl (upd f i.toNatClampNeg v))) = ws') (k : zV Γ A κ ws' ce sl (pc + 1) lv rest) : zV Γ A κ ws ce sl pc lv (.int v :: .int i :: .ref a :: rest) := by
  subst hws
  obtain ⟨hx, hb, hml, hnL, hown, hts, hK, hA, hR⟩ := hC; intro H locs ls hP hD hS hl
  exact va_iast hx hb hK.1 hP hD hS q0 x ha hx0 hin hd (fun H1 locs1 hP hD hS => k H1 locs1 ls hP hD hS hl)
theorem z_obj {index a : Nat} (hC : zC Γ t A κ cc own nL rm) (hd : decode cc pc = .ok (.invokespecial index, 3)) (hm : Cond.methodLink own index Lib.objectInit ∈ tt_good) (hi : Cond.instanceMethod Lib.objectInit ∈ tt_good) (hc : Cond.code Lib.objectInit ⟨#[0xb1]⟩ 1 none ∈ tt_good) (hr : (Nat.ble 1 rm.frames && Nat.ble 12 rm.locals) = true) (k : zV Γ A κ ws ce sl (pc + 3) lv []) : zV Γ A κ ws ce sl pc lv [.ref a] := by
  obtain ⟨hx, hb, hml, hnL, hown, hts, hK, hA, hR⟩ := hC; intro H locs ls hP hD hS hl
  rw [Bool.and_eq_true] at hr
  have r1 := Nat.le_of_ble_eq_true hr.1
  have r2 := Nat.le_of_ble_eq_true hr.2
  rw [← hR] at r1 r2
  refine W.objInit hx hb hown (hts _ hm) (hts _ hi) (hts _ hc) rfl (by rw [hml, ← hnL]; exact hl.1) rfl hd r1 r2 ?_
  refine W.eq (g2 := F0 (tt_xm κ) (pc + 3) ls []) rfl ?_
  exact k H locs ls hP hD hS hl
end ZR
/-- a constructor's contract: from its own bare cell to a world -/
def zM (y : MethodName) (cc : ByteArray) (nL fr lo mc ms ci : Nat) (fs : List Value) (w : zz_T → Nat → (Nat → Nat) → va_W) : Prop :=
  ∀ (l : Launch) (Γ : va_G) (t : zz_T) (h0 sz : Nat), Met l y (.code y cc nL none :: tt_good) { frames := fr, cells := mc, slots := ms, locals := lo } (va_Pc [.ref h0] (fun U => U.heap.size = sz ∧ va_P Γ tt_cl [(h0, .inr (ci, fs))] U.heap ∧ zz_S Γ t U))
    (va_Qv (fun _ : Nat → Nat => True) (fun u U => va_P Γ tt_cl (w t h0 u) U.heap ∧ va_D (va_A [(h0, .inr (ci, fs))] sz) (w t h0 u)) (va_A [(h0, .inr (ci, fs))] sz)) mc ms (va_A [(h0, .inr (ci, fs))] sz)
theorem zM_enter {y : MethodName} {cc : ByteArray} {nL fr lo mc ms ci : Nat} {fs : List Value} {w : zz_T → Nat → (Nat → Nat) → va_W} (hy : plainName y.cls = true) (hyi : y.name = "<init>") (hlen : 1 ≤ nL)
    (body : ∀ (Γ : va_G) (t : zz_T) (h0 : Nat) (A : Nat → Prop) (κ : tt_X Unit), zC Γ t A κ cc y.cls nL { frames := fr, cells := mc, slots := ms, locals := lo } → (tt_xM κ).name = "<init>" → (∀ (u : Nat → Nat) (pc : Nat), decode cc pc = .ok (.return_, 1) → zV Γ A κ (w t h0 u) mc ms pc [(0, .ref h0)] []) → zV Γ A κ [(h0, .inr (ci, fs))] 0 0 0 [(0, .ref h0)] []) : zM y cc nL fr lo mc ms ci fs w := by
  intro l Γ t h0 sz
  refine Met.ofW (cc := cc) (maxL := nL) (ret := none) hy rfl ?_
  intro p e s m args below meth c s₁ B hml hv
  obtain ⟨rfl, hsz, hP, hK⟩ := hv
  have hts := atoms_spec (ws := .code y cc nL none :: tt_good) B.pre
  have hown : s.vm.findClass y.cls = some m.cls := findClass_of_methodNamed B.named
  have hin : meth.name = "<init>" := ((name_of_methodNamed B.named B.method).1).trans hyi
  subst hsz
  have hD0 : va_D (fun _ => True) ([(h0, .inr (ci, fs))] : va_W) := ⟨fun i j p q hi hj _ => by
    have h1 := (List.getElem?_eq_some_iff.mp hi).1
    have h2 := (List.getElem?_eq_some_iff.mp hj).1
    have h1' : i < 1 := h1
    have h2' : j < 1 := h2
    omega, fun _ _ _ => trivial⟩
  have hD := hD0.self (sz := s.heap.size)
  have hl := lv_entry ([.ref h0]) (n := nL) hlen
  rw [lg_entry_eq]
  have hb := body Γ t h0 (va_A [(h0, .inr (ci, fs))] s.heap.size) (p, l, e, { frames := fr, cells := mc, slots := ms, locals := lo }, s, m, #[.ref h0], below, meth, c, (nL, 0, 0), (fun _ => MQ below (va_Qv (fun _ : Nat → Nat => True) (fun u U => va_P Γ tt_cl (w t h0 u) U.heap ∧ va_D (va_A [(h0, .inr (ci, fs))] s.heap.size) (w t h0 u)) (va_A [(h0, .inr (ci, fs))] s.heap.size)) #[.ref h0] s mc ms (va_A [(h0, .inr (ci, fs))] s.heap.size)), (fun _ => (none, (fun _ _ => 0, fun _ _ => 0, fun _ _ => 0))))
    ⟨B.exec, B.bytes, hml, rfl, hown, fun w hw => hts w (List.mem_cons_of_mem _ hw), hK, fun q h => Or.inr h, rfl⟩ hin
    (fun u pc hd H locs ls hP1 hD1 hS1 hl1 => W.vret B.exec B.bytes B.returns (fun t ht hW => ⟨⟨u, rfl, trivial, by rw [ht]; exact hP1, hD1⟩, hS1.F ht⟩) hS1.2.2 hd B.notSynchronized)
  exact hb s.heap [] _ hP hD va_S.rf hl
section ZK
variable {Γ : va_G} {t : zz_T} {A : Nat → Prop} {κ : tt_X Unit} {ws : va_W} {ce sl pc : Nat} {lv : List (Nat × Value)} {rest : List Value} {cc : ByteArray} {own : String} {nL : Nat} {rm : Room}
theorem zM_blind {h0 sz ci : Nat} {fs : List Value} : FrameBlind (va_Pc [.ref h0] (fun U => U.heap.size = sz ∧ va_P Γ tt_cl [(h0, .inr (ci, fs))] U.heap ∧ zz_S Γ t U)) := by
  intro a U g mk h
  obtain ⟨q0, q1, q2, q3⟩ := h
  exact ⟨q0, q1, q2, q3.blind g mk a⟩
theorem z_after {y : MethodName} {cc' : ByteArray} {nL' fr lo mc ms ci q5 : Nat} {fs : List Value} {w : zz_T → Nat → (Nat → Nat) → va_W} (p : Nat) (isR : List Nat) (wr : va_W) {H : Heap} {locs : List Loc} {ls : Array Slot} {stk : List Value} {a : Array Value} (hC : zC Γ t A κ cc own nL rm)
    (hP : va_P Γ tt_cl ws H) (hD : va_D A ws) (hS : va_S A (tt_xs κ).heap H locs) (hl : lv_has ls (tt_xn κ) lv)
    (hr : va_Run (tt_xp κ) (tt_xl κ) (tt_xe κ) (tt_xR κ) (tt_xs κ) (tt_xm κ) (tt_xa κ) (tt_xb κ) (tt_xM κ) (tt_xc κ) H locs ce sl mc ms (F0 (tt_xm κ) pc ls stk) rest (va_Qv (fun _ : Nat → Nat => True) (fun u U => va_P Γ tt_cl (w t q5 u) U.heap ∧ va_D (va_A [(q5, .inr (ci, fs))] H.size) (w t q5 u)) (va_A [(q5, .inr (ci, fs))] H.size) a) (va_A [(q5, .inr (ci, fs))] H.size))
    (he : ws[p]? = some (q5, .inr (ci, fs))) (hR : isR.map (fun i => ws[i]?) = wr.map some) (hn : va_nd isR = true) (hdis : ∀ i ∈ isR, i ∉ [p])
    (k : ∀ u : Nat → Nat, zV Γ A κ (wr ++ w t q5 u) (ce + mc) (sl + ms) (pc + 3) lv rest) : W (tt_xp κ) (tt_xl κ) (tt_xe κ) (tt_xR κ) (tt_xs κ) (tt_xm κ) (tt_xa κ) (tt_xb κ) (tt_xM κ) (tt_xc κ) H locs ce sl (tt_xQ κ (tt_xk κ ())) (F0 (tt_xm κ) pc ls stk) := by
  obtain ⟨hx, hb, hml, hnL, hown, hts, hK, hA, hRm⟩ := hC
  have hcc : ([p] : List Nat).map (fun i => ws[i]?) = ([(q5, .inr (ci, fs))] : va_W).map some := by simp [he]
  have hFc := va_free (wc := [(q5, .inr (ci, fs))]) hD hS hA [p] hcc
  refine va_callv hr hS (fun q _ h => hFc q h) hFc (fun u t1 H1 locs1 ht hvm hw hB hz1 hk1 hS1 => ?_)
  obtain ⟨hP1, hD1⟩ := hB
  rw [ht] at hP1
  obtain ⟨hP2, hD2⟩ := va_join (wr := wr) (w1 := w t q5 u) hP hD [p] isR hcc hR hn hdis hk1 hFc hP1 hD1
  exact k u H1 locs1 ls hP2 hD2 hS1 hl
/-- a constructor is called -/
theorem z_callI {y : MethodName} {cc' : ByteArray} {nL' fr lo mc ms ci q5 index : Nat} {fs : List Value} {w : zz_T → Nat → (Nat → Nat) → va_W} (p : Nat) (isR : List Nat) (wr : va_W) (hC : zC Γ t A κ cc own nL rm) (hd : decode cc pc = .ok (.invokespecial index, 3)) (hM : zM y cc' nL' fr lo mc ms ci fs w) (hw : tt_Mw y cc' nL' none 0) (hi : Cond.instanceMethod y ∈ tt_good) (hyi : y.name = "<init>") (hm : Cond.methodLink own index y ∈ tt_good)
    (he : ws[p]? = some (q5, .inr (ci, fs))) (hR : isR.map (fun i => ws[i]?) = wr.map some) (hn : va_nd isR = true) (hdis : ∀ i ∈ isR, i ∉ [p]) (hroom : (Nat.ble (fr + 1) rm.frames && Nat.ble (8 + (nL' + 11) + lo) rm.locals) = true) (hroom2 : (Nat.ble (ce + mc) rm.cells && Nat.ble (sl + ms) rm.slots) = true) (hcat : (rest.map fun v => v.category).sum ≤ 8)
    (k : ∀ u : Nat → Nat, zV Γ A κ (wr ++ w t q5 u) (ce + mc) (sl + ms) (pc + 3) lv rest) : zV Γ A κ ws ce sl pc lv (.ref q5 :: rest) := by
  have hC0 := hC
  obtain ⟨hx, hb, hml, hnL, hown, hts, hK, hA, hRm⟩ := hC; intro H locs ls hP hD hS hl
  rw [Bool.and_eq_true] at hroom hroom2
  have r1 := Nat.le_of_ble_eq_true hroom.1
  have r2 := Nat.le_of_ble_eq_true hroom.2
  have r3 := Nat.le_of_ble_eq_true hroom2.1
  have r4 := Nat.le_of_ble_eq_true hroom2.2
  rw [← hRm] at r1 r2 r3 r4
  have hPc : va_P Γ tt_cl [(q5, .inr (ci, fs))] H := hP.sub [p] (by simp [he])
  refine z_after (nL' := nL') (fr := fr) (lo := lo) (y := y) (cc' := cc') p isR wr hC0 hP hD hS hl (va_runI (As := []) (rest := rest) ⟨hx, hb, hml, hown, hts⟩ (hM (tt_xl κ) Γ t q5 H.size) (cwI 0 hts (tt_goodIn hw.1) rfl rfl rfl (hts _ hw.2.1) (hts _ hm) (hts _ hi) hyi hw.2.2 ⟨r1, r2⟩) ⟨zM_blind, fun U hU hW => ⟨rfl, by rw [hU], by rw [hU]; exact hPc, hK.go hW⟩⟩ rfl rfl (by rw [← hnL]; exact hl.1) rfl (lv_room hcat) hd ⟨r3, r4⟩) he hR hn hdis k
theorem z_callIN {y : MethodName} {cc' : ByteArray} {nL' fr lo mc ms ci q5 index : Nat} {host : String} {fs : List Value} {w : zz_T → Nat → (Nat → Nat) → va_W} (p : Nat) (isR : List Nat) (wr : va_W) (hC : zC Γ t A κ cc own nL rm) (hd : decode cc pc = .ok (.invokespecial index, 3)) (hM : zM y cc' nL' fr lo mc ms ci fs w) (hw : tt_Mw y cc' nL' none 0) (hi : Cond.instanceMethod y ∈ tt_good) (hyi : y.name = "<init>") (hm : Cond.methodLinkNest own index y host ∈ tt_nest)
    (he : ws[p]? = some (q5, .inr (ci, fs))) (hR : isR.map (fun i => ws[i]?) = wr.map some) (hn : va_nd isR = true) (hdis : ∀ i ∈ isR, i ∉ [p]) (hroom : (Nat.ble (fr + 1) rm.frames && Nat.ble (8 + (nL' + 11) + lo) rm.locals) = true) (hroom2 : (Nat.ble (ce + mc) rm.cells && Nat.ble (sl + ms) rm.slots) = true) (hcat : (rest.map fun v => v.category).sum ≤ 8)
    (k : ∀ u : Nat → Nat, zV Γ A κ (wr ++ w t q5 u) (ce + mc) (sl + ms) (pc + 3) lv rest) : zV Γ A κ ws ce sl pc lv (.ref q5 :: rest) := by
  have hC0 := hC
  obtain ⟨hx, hb, hml, hnL, hown, hts, hK, hA, hRm⟩ := hC; intro H locs ls hP hD hS hl
  rw [Bool.and_eq_true] at hroom hroom2
  have r1 := Nat.le_of_ble_eq_true hroom.1
  have r2 := Nat.le_of_ble_eq_true hroom.2
  have r3 := Nat.le_of_ble_eq_true hroom2.1
  have r4 := Nat.le_of_ble_eq_true hroom2.2
  rw [← hRm] at r1 r2 r3 r4
  have hPc : va_P Γ tt_cl [(q5, .inr (ci, fs))] H := hP.sub [p] (by simp [he])
  refine z_after (nL' := nL') (fr := fr) (lo := lo) (y := y) (cc' := cc') p isR wr hC0 hP hD hS hl (va_runIN (As := []) (rest := rest) ⟨hx, hb, hml, hown, hts⟩ (hM (tt_xl κ) Γ t q5 H.size) ⟨va_cnB 0 hts (tt_goodIn hw.1) rfl rfl rfl (hK.2.2.2 _ hm) (hts _ hw.2.1) hw.2.2 ⟨r1, r2⟩, hyi, hts _ hi⟩ ⟨zM_blind, fun U hU hW => ⟨rfl, by rw [hU], by rw [hU]; exact hPc, hK.go hW⟩⟩ rfl rfl (by rw [← hnL]; exact hl.1) rfl (lv_room hcat) hd ⟨r3, r4⟩) he hR hn hdis k
end ZK

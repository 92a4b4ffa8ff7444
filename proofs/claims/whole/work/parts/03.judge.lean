/-! what holds of the constants that lie outside the world: static arrays, the text "psbft", the nest's links -/
def tt_qv (j : Nat) : Int32 := ([1000, 995, 981, 957, 924, 882, 831, 773, 707, 634, 556, 471, 383, 290, 195, 98, 0] : List Int32).getD j 0
def tt_cv (j : Nat) : Int32 := ([6, 4, 8, 16] : List Int32).getD j 0
def tt_dv (j : Nat) : Int32 := ([0, 7, 50, 144, 400, 1439] : List Int32).getD j 0
def tt_kv (j : Nat) : Int32 := ([112, 115, 98, 102, 116] : List Int32).getD j 0
def tt_sv (j i : Nat) : Int32 := if j = 0 then tt_qv i else if j = 1 then tt_cv i else tt_dv i
def tt_sn (j : Nat) : Nat := ([17, 4, 6] : List Nat).getD j 0
def tt_sN (j : Nat) : String := (["QUARTER", "COULD", "DIGEST_TICKS"] : List String).getD j ""
def tt_nest : List Cond := [.methodLinkNest "TideTable" 11 ⟨"TideTable$Page", "<init>", "()V"⟩ "TideTable", .methodLinkNest "TideTable$Port" 21 ⟨"TideTable$Wave", "<init>", "()V"⟩ "TideTable", .methodLinkNest "TideTable$Page" 40 ⟨"TideTable", "within", "(III)Z"⟩ "TideTable", .methodLinkNest "TideTable$Wave" 19 ⟨"TideTable", "roundAt", "(I)I"⟩ "TideTable"]
theorem tt_nest_shape : ∀ w ∈ tt_nest, ∃ a i x h, w = Cond.methodLinkNest a i x h := by
  intro w hw
  simp only [tt_nest, List.mem_cons, List.not_mem_nil, or_false] at hw
  rcases hw with h | h | h | h <;> exact ⟨_, _, _, _, h⟩
def tt_SxH (G : tt_G) (U : State) (H : Heap) : Prop :=
  (∀ j, j < 3 → va_Z "TideTable" (tt_sN j) "[I" (.ref (tt_sa G j)) (tt_Ad G) U H ∧ va_T .int (tt_sa G j) (tt_sn j) (fun i => .int (tt_sv j i)) (tt_Ad G) U H) ∧
  va_Z "java/lang/String" "COMPACT_STRINGS" "Z" (.int 1) (tt_Ad G) U H ∧
  (∀ w ∈ tt_nest, va_Nw w U) ∧ vk_R "TideTable$Page" 44 "psbft" (tt_sa G 3) U ∧ vk_S 1 [5] [[112, 115, 98, 102, 116]] (fun _ => tt_sa G 3) (fun _ => tt_sa G 4) (tt_Ad G) U H
def tt_Sx (G : tt_G) (U : State) : Prop := tt_SxH G U U.heap
theorem tt_Sx.go {G : tt_G} {s U : State} {H : Heap} {locs : List Loc} (h : tt_Sx G s) (hS : va_S (tt_Ad G) s.heap H locs) (hU : U.heap = H) (hW : s.WarmedH U.vm) : tt_Sx G U := by
  obtain ⟨h1, h2, h3, h4, h5⟩ := h
  have hq : ∀ a : Nat, a < s.heap.size → ¬ tt_Ad G a → U.heap[a]? = s.heap[a]? := fun a x y => by rw [hU]; exact hS.2.1 a x y
  refine ⟨fun j hj => ⟨((h1 j hj).1.kept hq).moved hW.alike, ((h1 j hj).2.kept hq).moved hW.alike⟩, (h2.kept hq).moved hW.alike, fun w hw => ?_, h4.warm hW, (h5.kept hq).moved hW.alike⟩
  obtain ⟨a, i, x, h, rfl⟩ := tt_nest_shape w hw
  exact va_Nw.warmM hW (h3 _ hw)
theorem tt_Sx.blind {G : tt_G} {U : State} (g : JFrame) (mk : MethodId) (a : Array Value) (h : tt_Sx G U) : tt_Sx G (U.calling g mk a) := by
  obtain ⟨h1, h2, h3, h4, h5⟩ := h
  have hv : (U.calling g mk a).vm = U.vm := rfl
  refine ⟨fun j hj => ⟨(h1 j hj).1.moved (Vm.Alike.refl U.vm), (h1 j hj).2.moved (Vm.Alike.refl U.vm)⟩, h2.moved (Vm.Alike.refl U.vm), fun w hw => ?_, h4.same hv, h5.moved (Vm.Alike.refl U.vm)⟩
  obtain ⟨b, i, x, h, rfl⟩ := tt_nest_shape w hw
  exact va_Nw.same rfl hv.symm (h3 _ hw)
/-! contracts -/
def tt_Pc (G : tt_G) (av : List Value) (st : tt_St) : Array Value → State → Prop := va_Pc av (fun U => va_P G.1 tt_cl (tt_ws G st) U.heap ∧ va_K G.1 tt_cl (tt_tys G) U ∧ tt_Sx G U ∧ tt_J G)
def tt_Q (G : tt_G) (rv : Option Value) (st' : tt_St) : Array Value → State → Outcome → State → Prop := fun _ s0 oc t => oc = .returned rv ∧ va_P G.1 tt_cl (tt_ws G st') t.heap ∧ va_F (tt_Ad G) s0 t
def tt_rm (fr lo : Nat) : Room := { frames := fr, cells := 0, slots := 0, locals := lo }
def tt_C (y : MethodName) (cc : ByteArray) (nL : Nat) (ret : Option FieldType) (fr lo : Nat) (G : tt_G) (av : List Value) (st : tt_St) (rv : Option Value) (st' : tt_St) : Prop :=
  ∀ l : Launch, Met l y (.code y cc nL ret :: tt_good) (tt_rm fr lo) (tt_Pc G av st) (tt_Q G rv st') 0 0 (tt_Ad G)
theorem tt_blind {G : tt_G} {av : List Value} {st : tt_St} : FrameBlind (tt_Pc G av st) := by
  intro a U g mk h
  obtain ⟨h0, h1, h2, h3, h4⟩ := h
  exact ⟨h0, h1, va_K.moved (u := U) (U := U.calling g mk a) (Vm.Alike.refl U.vm) h2, h3.blind g mk a, h4⟩
/-! the judgement -/
abbrev tt_X (α : Type) : Type := Program × Launch × Env × Room × State × MethodId × Array Value × List Frame × Method × Code × (Nat × Nat × Nat) × (Option Value × tt_St → State → Prop) × (α → Option Value × tt_St)
section TX
variable {α : Type}
abbrev tt_xp (κ : tt_X α) : Program := κ.1
abbrev tt_xl (κ : tt_X α) : Launch := κ.2.1
abbrev tt_xe (κ : tt_X α) : Env := κ.2.2.1
abbrev tt_xR (κ : tt_X α) : Room := κ.2.2.2.1
abbrev tt_xs (κ : tt_X α) : State := κ.2.2.2.2.1
abbrev tt_xm (κ : tt_X α) : MethodId := κ.2.2.2.2.2.1
abbrev tt_xa (κ : tt_X α) : Array Value := κ.2.2.2.2.2.2.1
abbrev tt_xb (κ : tt_X α) : List Frame := κ.2.2.2.2.2.2.2.1
abbrev tt_xM (κ : tt_X α) : Method := κ.2.2.2.2.2.2.2.2.1
abbrev tt_xc (κ : tt_X α) : Code := κ.2.2.2.2.2.2.2.2.2.1
abbrev tt_xn (κ : tt_X α) : Nat := κ.2.2.2.2.2.2.2.2.2.2.1.1
abbrev tt_xC (κ : tt_X α) : Nat := κ.2.2.2.2.2.2.2.2.2.2.1.2.1
abbrev tt_xS (κ : tt_X α) : Nat := κ.2.2.2.2.2.2.2.2.2.2.1.2.2
abbrev tt_xQ (κ : tt_X α) : Option Value × tt_St → State → Prop := κ.2.2.2.2.2.2.2.2.2.2.2.1
abbrev tt_xk (κ : tt_X α) : α → Option Value × tt_St := κ.2.2.2.2.2.2.2.2.2.2.2.2
abbrev tt_W (κ : tt_X α) (T : α) (H : Heap) (locs : List Loc) (g : JFrame) : Prop := W (tt_xp κ) (tt_xl κ) (tt_xe κ) (tt_xR κ) (tt_xs κ) (tt_xm κ) (tt_xa κ) (tt_xb κ) (tt_xM κ) (tt_xc κ) H locs (tt_xC κ) (tt_xS κ) (tt_xQ κ (tt_xk κ T)) g
/-- from pc, with these locals and this stack, in this state, the method comes to the result T -/
def tt_V (G : tt_G) (κ : tt_X α) (T : α) (st : tt_St) (pc : Nat) (lv : List (Nat × Value)) (stk : List Value) : Prop :=
  ∀ (H : Heap) (locs : List Loc) (ls : Array Slot), va_P G.1 tt_cl (tt_ws G st) H → va_S (tt_Ad G) (tt_xs κ).heap H locs → lv_has ls (tt_xn κ) lv → tt_W κ T H locs (F0 (tt_xm κ) pc ls stk)
def tt_Cx (G : tt_G) (κ : tt_X α) (cc : ByteArray) (own : String) (nL fr lo : Nat) : Prop :=
  (tt_xp κ).tables.exec = Jvm.exec ∧ (tt_xc κ).code = cc ∧ (tt_xc κ).maxLocals = nL ∧ tt_xn κ = nL ∧ (tt_xs κ).vm.findClass own = some (tt_xm κ).cls ∧ (∀ w ∈ tt_good, w.before (tt_xa κ) (tt_xs κ) = true) ∧ va_K G.1 tt_cl (tt_tys G) (tt_xs κ) ∧ tt_J G ∧ tt_Sx G (tt_xs κ) ∧ fr ≤ (tt_xR κ).frames ∧ lo ≤ (tt_xR κ).locals ∧ tt_xC κ ≤ (tt_xR κ).cells ∧ tt_xS κ ≤ (tt_xR κ).slots
def tt_Rt (G : tt_G) (κ : tt_X α) (ret : Option FieldType) (mk : α → Option Value × tt_St) : Prop :=
  (tt_xM κ).sig.returnType = ret ∧ (tt_xM κ).locks = false ∧ tt_xk κ = mk ∧ tt_xQ κ = fun r => MQ (tt_xb κ) (tt_Q G r.1 r.2) (tt_xa κ) (tt_xs κ) (tt_xC κ) (tt_xS κ) (tt_Ad G)
theorem tt_ofW {l : Launch} {y : MethodName} {ws ws' : List Cond} {rm : Room} {Pc : Array Value → State → Prop} {Qc : Array Value → State → Outcome → State → Prop} {mc ms : Nat} {free : Addr → Prop} {cc : ByteArray} {maxL : Nat} {ret : Option FieldType}
    (hy : plainFor y = true) (hw : ws = Cond.code y cc maxL ret :: ws')
    (body : ∀ p e s m args below meth c s₁, BodyLoose p l y (headSpec ws rm) cc maxL ret e s m args below meth c s₁ → c.maxLocals = maxL → Pc args s →
      W p l e (headSpec ws rm).room s m args below meth c s.heap [] 0 0 (MQ below Qc args s mc ms free) (entryFrame m args maxL)) : Met l y ws rm Pc Qc mc ms free := by
  refine MetFree.of_bodySF (code := cc) (maxLocals := maxL) (ret := ret) hy ?_ ?_
  · intro args s m h hn
    obtain ⟨meth, c, h1, h2, h3, h4, h5, h6, -, -⟩ := Cond.code_spec hn (atoms_spec (ws := ws) h _ (by rw [hw]; exact List.mem_cons_self))
    exact ⟨meth, c, h1, h2, h3, h4, h5, h6⟩
  · intro p e s m args below meth c s₁ B hml hP _
    have hh0 : s₁.heap = s.heap := by rw [B.state]; rfl
    obtain ⟨t, a1, o, b1, b2, b3⟩ := body p e s m args below meth c s₁ B hml hP s₁ hh0 (Stand.of_body B)
    exact ⟨t, o, a1, b1, b2, ⟨b3.1, b3.2⟩⟩
theorem tt_enter {y : MethodName} {cc : ByteArray} {nL : Nat} {ret : Option FieldType} {fr lo : Nat} {G : tt_G} {av : List Value} {st : tt_St} {mk : α → Option Value × tt_St} {T : α}
    (hy : plainFor y = true) (hlen : (lg_sl av).length ≤ nL) (body : ∀ κ : tt_X α, tt_Cx G κ cc y.cls nL fr lo → tt_Rt G κ ret mk → tt_V G κ T st 0 (lv_args 0 av) []) :
    tt_C y cc nL ret fr lo G av st (mk T).1 (mk T).2 := by
  intro l
  refine tt_ofW (cc := cc) (maxL := nL) (ret := ret) hy rfl ?_
  intro p e s m args below meth c s₁ B hml hv
  obtain ⟨rfl, hP, hK, hSx, hJ⟩ := hv
  have hts := atoms_spec (ws := .code y cc nL ret :: tt_good) B.pre
  have hown : s.vm.findClass y.cls = some m.cls := findClass_of_methodNamed B.named
  have hl := lv_entry av (n := nL) hlen
  rw [lg_entry_eq]
  have hb := body (p, l, e, tt_rm fr lo, s, m, av.toArray, below, meth, c, (nL, 0, 0), (fun r => MQ below (tt_Q G r.1 r.2) av.toArray s 0 0 (tt_Ad G)), mk)
    ⟨B.exec, B.bytes, hml, rfl, hown, fun w hw => hts w (List.mem_cons_of_mem _ hw), hK, hJ, hSx, Nat.le_refl _, Nat.le_refl _, Nat.zero_le _, Nat.zero_le _⟩
    ⟨B.returns, B.notSynchronized, rfl, rfl⟩
  exact hb s.heap [] _ hP va_S.rf hl
theorem tt_goodIn {y : MethodName} {cc : ByteArray} {nL : Nat} {ret : Option FieldType} (h : Cond.code y cc nL ret ∈ tt_good) : GoodIn tt_good (.code y cc nL ret :: tt_good) := by
  have hg : ∀ w ∈ tt_good, w ∈ tt_good ∧ ((w.onTables && w.keeps) = true ∨ ∃ ty, w = .arrayClass ty) := fun w hw => ⟨hw, good_of_word (List.mem_filter.mp hw).2⟩
  intro w hw
  rcases List.mem_cons.mp hw with e | e
  · exact hg w (e ▸ h)
  · exact hg w e
/-! calls -/
def tt_Mw (y : MethodName) (cc : ByteArray) (nL : Nat) (ret : Option FieldType) (n : Nat) : Prop := Cond.code y cc nL ret ∈ tt_good ∧ Cond.initialized y.cls ∈ tt_good ∧ (y.cls ≠ "java/lang/invoke/MethodHandle" ∧ y.cls ≠ "java/lang/invoke/VarHandle" ∧ (parseMethodDescriptor y.desc).map (fun d => d.parameters.length) = some n)
theorem tt_go {G : tt_G} {κ : tt_X α} {T : α} {st' : tt_St} {pc : Nat} {lv : List (Nat × Value)} {stk rest : List Value} {H : Heap} {locs : List Loc} {ls : Array Slot} {rv : Option Value} {a : Array Value} {stk1 : List Value}
    (hr : va_Run (tt_xp κ) (tt_xl κ) (tt_xe κ) (tt_xR κ) (tt_xs κ) (tt_xm κ) (tt_xa κ) (tt_xb κ) (tt_xM κ) (tt_xc κ) H locs (tt_xC κ) (tt_xS κ) 0 0 (F0 (tt_xm κ) pc ls stk) rest (tt_Q G rv st' a) (tt_Ad G)) (hS : va_S (tt_Ad G) (tt_xs κ).heap H locs) (hl : lv_has ls (tt_xn κ) lv) (hk1 : rv.toList ++ rest = stk1)
    (k : tt_V G κ T st' (pc + 3) lv stk1) : tt_W κ T H locs (F0 (tt_xm κ) pc ls stk) := by
  subst hk1
  intro U hU X
  obtain ⟨v, st₀, t, T', L, h0, X', hL, e1, e2, ⟨hv, hb, hz, hk⟩, go⟩ := hr U hU X
  cases hv
  rw [h0] at hz hk
  have hS' : va_S (tt_Ad G) (tt_xs κ).heap T'.heap (locs ++ L) := ⟨Nat.le_trans hS.1 (by rw [e1]; exact hz), fun q h1 h2 => by rw [e1, hk q (Nat.lt_of_lt_of_le h1 hS.1) h2]; exact hS.2.1 q h1 h2, fun q hq => by
      rcases List.mem_append.mp hq with h | h
      · exact hS.2.2 q h
      · exact hL q h⟩
  obtain ⟨t2, a1, b1⟩ := k T'.heap (locs ++ L) ls (by rw [e1]; exact hb) hS' hl T' rfl X'
  exact ⟨t2, go t2 a1, b1⟩
theorem r_callS {G : tt_G} {κ : tt_X α} {T : α} {st st' : tt_St} {pc : Nat} {lv : List (Nat × Value)} {av rest stk stk1 : List Value} {cc cc' : ByteArray} {own : String} {nL fr lo : Nat} {y : MethodName} {nL' fr' lo' n index : Nat} {ret' : Option FieldType} {rv : Option Value}
    (hC : tt_Cx G κ cc own nL fr lo) (hd : decode cc pc = .ok (.invokestatic index, 3)) (hM : tt_C y cc' nL' ret' fr' lo' G av st rv st') (hw : tt_Mw y cc' nL' ret' n) (hs : Cond.static y ∈ tt_good) (hm : Cond.methodLink own index y ∈ tt_good) (hn : av.length = n) (hk : av.reverse ++ rest = stk) (hroom : (Nat.ble (fr' + 1) fr && Nat.ble (8 + (nL' + 11) + lo') lo) = true) (hcat : (rest.map fun v => v.category).sum ≤ 8) (hk1 : rv.toList ++ rest = stk1)
    (k : tt_V G κ T st' (pc + 3) lv stk1) : tt_V G κ T st pc lv stk := by
  obtain ⟨hx, hb, hml, hnL, hown, hts, hK, hJ, hSx, q1, q2, q3, q4⟩ := hC
  rw [Bool.and_eq_true] at hroom
  have hroom1 := Nat.le_of_ble_eq_true hroom.1
  have hroom2 := Nat.le_of_ble_eq_true hroom.2
  intro H locs ls hP hS hl
  refine tt_go (va_runS (As := av) (rest := rest) ⟨hx, hb, hml, hown, hts⟩ (hM (tt_xl κ)) ⟨callB_of n hts (tt_goodIn hw.1) rfl rfl rfl (hts _ hw.2.1) (hts _ hm) hw.2.2 ⟨Nat.le_trans hroom1 q1, Nat.le_trans hroom2 q2⟩, hts _ hs⟩ ⟨tt_blind, fun U hU hW => ⟨rfl, by rw [hU]; exact hP, va_K.moved hW.alike hK, hSx.go hS hU hW, hJ⟩⟩ rfl hn (by rw [← hnL]; exact hl.1) hk.symm (lv_room hcat) hd ⟨q3, q4⟩) hS hl hk1 k
theorem r_callSN {G : tt_G} {κ : tt_X α} {T : α} {st st' : tt_St} {pc : Nat} {lv : List (Nat × Value)} {av rest stk stk1 : List Value} {cc cc' : ByteArray} {own host : String} {nL fr lo : Nat} {y : MethodName} {nL' fr' lo' n index : Nat} {ret' : Option FieldType} {rv : Option Value}
    (hC : tt_Cx G κ cc own nL fr lo) (hd : decode cc pc = .ok (.invokestatic index, 3)) (hM : tt_C y cc' nL' ret' fr' lo' G av st rv st') (hw : tt_Mw y cc' nL' ret' n) (hs : Cond.static y ∈ tt_good) (hm : Cond.methodLinkNest own index y host ∈ tt_nest) (hn : av.length = n) (hk : av.reverse ++ rest = stk) (hroom : (Nat.ble (fr' + 1) fr && Nat.ble (8 + (nL' + 11) + lo') lo) = true) (hcat : (rest.map fun v => v.category).sum ≤ 8) (hk1 : rv.toList ++ rest = stk1)
    (k : tt_V G κ T st' (pc + 3) lv stk1) : tt_V G κ T st pc lv stk := by
  obtain ⟨hx, hb, hml, hnL, hown, hts, hK, hJ, hSx, q1, q2, q3, q4⟩ := hC
  rw [Bool.and_eq_true] at hroom
  have hroom1 := Nat.le_of_ble_eq_true hroom.1
  have hroom2 := Nat.le_of_ble_eq_true hroom.2
  intro H locs ls hP hS hl
  refine tt_go (va_runSN (As := av) (rest := rest) ⟨hx, hb, hml, hown, hts⟩ (hM (tt_xl κ)) ⟨va_cnB n hts (tt_goodIn hw.1) rfl rfl rfl (hSx.2.2.1 _ hm) (hts _ hw.2.1) hw.2.2 ⟨Nat.le_trans hroom1 q1, Nat.le_trans hroom2 q2⟩, hts _ hs, trivial⟩ ⟨tt_blind, fun U hU hW => ⟨rfl, by rw [hU]; exact hP, va_K.moved hW.alike hK, hSx.go hS hU hW, hJ⟩⟩ rfl hn (by rw [← hnL]; exact hl.1) hk.symm (lv_room hcat) hd ⟨q3, q4⟩) hS hl hk1 k
theorem r_callV {G : tt_G} {κ : tt_X α} {T : α} {st st' : tt_St} {pc : Nat} {lv : List (Nat × Value)} {av rest stk stk1 : List Value} {cc cc' : ByteArray} {own C : String} {nL fr lo : Nat} {y : MethodName} {nL' fr' lo' n index o ci : Nat} {ret' : Option FieldType} {rv : Option Value} {F : u_T} {N : Nat}
    (hC : tt_Cx G κ cc own nL fr lo) (hd : decode cc pc = .ok (.invokevirtual index, 3)) (hM : tt_C y cc' nL' ret' fr' lo' G (.ref (tt_ad G o) :: av) st rv st') (hw : tt_Mw y cc' nL' ret' n) (hi : Cond.instanceMethod y ∈ tt_good) (hse : Cond.selects C y y ∈ tt_good) (hm : Cond.methodLink own index y ∈ tt_good) (ho : tt_ci o = ci) (hci : tt_cl[ci]? = some (C, F, N)) (hn : av.length = n) (hk : av.reverse ++ .ref (tt_ad G o) :: rest = stk) (hroom : (Nat.ble (fr' + 1) fr && Nat.ble (8 + (nL' + 11) + lo') lo) = true) (hcat : (rest.map fun v => v.category).sum ≤ 8) (hk1 : rv.toList ++ rest = stk1)
    (k : tt_V G κ T st' (pc + 3) lv stk1) : tt_V G κ T st pc lv stk := by
  obtain ⟨hx, hb, hml, hnL, hown, hts, hK, hJ, hSx, q1, q2, q3, q4⟩ := hC
  rw [Bool.and_eq_true] at hroom
  have hroom1 := Nat.le_of_ble_eq_true hroom.1
  have hroom2 := Nat.le_of_ble_eq_true hroom.2
  have hlt : tt_ci o < 6 := by rw [ho]; exact (List.getElem?_eq_some_iff.mp hci).1
  have hE := tt_ws_get G st (tt_ci_lt hlt)
  rw [tt_E_obj hlt, ho] at hE
  intro H locs ls hP hS hl
  refine tt_go (va_runV (As := av) (rest := rest) (C := C) ⟨hx, hb, hml, hown, hts⟩ (hM (tt_xl κ)) ⟨callB_of n hts (tt_goodIn hw.1) rfl rfl rfl (hts _ hw.2.1) (hts _ hm) hw.2.2 ⟨Nat.le_trans hroom1 q1, Nat.le_trans hroom2 q2⟩, hts _ hi, hts _ hse⟩ ⟨tt_blind, va_recv hK hP hci hE, fun U hU hW => ⟨rfl, by rw [hU]; exact hP, va_K.moved hW.alike hK, hSx.go hS hU hW, hJ⟩⟩ rfl hn (by rw [← hnL]; exact hl.1) hk.symm (lv_room hcat) hd ⟨q3, q4⟩) hS hl hk1 k
theorem tt_join {G : tt_G} {κ : tt_X α} {T : α} {st : tt_St} {pc : Nat} {lv : List (Nat × Value)} {stk : List Value} (j : Nat) (lv' : List (Nat × Value)) (stk' : List Value) (k : tt_V G κ T st j lv' stk') (h : tt_V G κ T st j lv' stk' → tt_V G κ T st pc lv stk) : tt_V G κ T st pc lv stk := h k
theorem tt_cast {G : tt_G} {κ : tt_X α} {T : α} {st : tt_St} {pc : Nat} {lv lv' : List (Nat × Value)} {stk stk' : List Value} (ks : List Nat) (hl : lv_pick lv ks = lv') (hs : stk = stk') (k : tt_V G κ T st pc lv' stk') : tt_V G κ T st pc lv stk := by
  subst hs
  exact fun H locs ls hP hS h => k H locs ls hP hS (lv_sub h ks hl)
theorem tt_ite {G : tt_G} {κ : tt_X α} {T1 T2 : α} {st : tt_St} {pc : Nat} {lv : List (Nat × Value)} {stk : List Value} {c : Prop} [Decidable c] (kt : c → tt_V G κ T1 st pc lv stk) (kf : ¬ c → tt_V G κ T2 st pc lv stk) : tt_V G κ (if c then T1 else T2) st pc lv stk := by
  by_cases h : c
  · rw [if_pos h]; exact kt h
  · rw [if_neg h]; exact kf h
theorem tt_itej {G : tt_G} {κ : tt_X α} {T : α} {st : tt_St} {pc : Nat} {lv : List (Nat × Value)} {stk : List Value} {c : Prop} (kt : c → tt_V G κ T st pc lv stk) (kf : ¬ c → tt_V G κ T st pc lv stk) : tt_V G κ T st pc lv stk := by
  by_cases h : c
  · exact kt h
  · exact kf h
end TX

/-! the law from its entry -/
theorem zk_lw_7 : Cond.classLink "TideTableLaw" 7 "TideTable" ∈ tt_good := List.mem_of_getElem? (i := 56) (by decide +kernel)
theorem zk_lw_10 : Cond.classLink "TideTableLaw" 10 "TideTableModel" ∈ tt_good := List.mem_of_getElem? (i := 562) (by decide +kernel)
set_option maxHeartbeats 4000000 in
set_option maxRecDepth 20000 in
theorem lw_begin {κ : tt_X Unit} {Γ : va_G} {t : zz_T} {sa : Nat → Nat} {b L : Nat} {xs : Nat → Int32} (hC : zC Γ t (fun q => (tt_xs κ).heap.size ≤ q) κ code "TideTableLaw" 4 room_1) (hSx : zSx (fun q => (tt_xs κ).heap.size ≤ q) sa (tt_xs κ)) (hX : va_X b L xs (tt_xs κ) (tt_xs κ).heap) (hbl : b < (tt_xs κ).heap.size) (hL : L ≤ 3072) (hc : tt_xC κ = 600000) (hs : tt_xS κ = 7302250)
    (hE : ∀ (H : Heap) (locs : List Loc) (ls : Array Slot), (∀ q ∈ locs, (tt_xs κ).heap.size ≤ q.base) → W (tt_xp κ) (tt_xl κ) (tt_xe κ) (tt_xR κ) (tt_xs κ) (tt_xm κ) (tt_xa κ) (tt_xb κ) (tt_xM κ) (tt_xc κ) H locs 600000 7302250 (tt_xQ κ (tt_xk κ ())) (F0 (tt_xm κ) 1192 ls [.int 1])) : zV Γ (fun q => (tt_xs κ).heap.size ≤ q) κ [] 0 0 0 [(0, .ref b)] [] := by
  refine z_new (ci := 4) (fs := [.null, .null, .null, .int 0, .int 0, .null, .null]) (ty0 := t_Tt) hC d_law_0 i_Tt t_Tt_ok zk_lw_7 zi_Tt mw_tb_init.2.1 rfl (by decide) rfl (fun q0 => ?_)
  refine z_dup hC d_law_3 rfl ?_
  refine z_callI 0 [] [] hC d_law_4 c_tb_init mw_tb_init mi_tb_init rfl ml_lw_9 rfl rfl rfl (by decide) rfl rfl (Nat.le_of_ble_eq_true rfl) (fun u => ?_)
  refine z_astore_n [(1, .ref q0), (0, .ref b)] hC d_law_7 rfl (by decide) rfl ?_
  refine z_new (ci := 5) (fs := [.int 0, .int 0, .null, .null, .null, .null, .null, .null, .null, .int 0, .null, .null, .null, .int 0, .null, .int 0, .int 0, .int 0, .null, .null, .null, .null, .null, .null, .int 0, .long 0, .int 0, .int 0, .int 0, .null, .null, .null, .null, .null, .null, .null, .null, .null, .long 0]) (ty0 := t_Mo) hC d_law_8 i_Mo t_Mo_ok zk_lw_10 zi_Mo mw_mo_init.2.1 rfl (by decide +kernel) rfl (fun q1 => ?_)
  refine z_dup hC d_law_11 rfl ?_
  refine z_callI 49 [0, 1, 2, 3, 4, 5, 6, 7, 8, 9, 10, 11, 12, 13, 14, 15, 16, 17, 18, 19, 20, 21, 22, 23, 24, 25, 26, 27, 28, 29, 30, 31, 32, 33, 34, 35, 36, 37, 38, 39, 40, 41, 42, 43, 44, 45, 46, 47, 48] (zw_Tt t q0 u) hC d_law_12 c_mo_init mw_mo_init mi_mo_init rfl ml_lw_12 rfl rfl rfl (by decide) rfl rfl (Nat.le_of_ble_eq_true rfl) (fun v => ?_)
  refine z_astore_n [(2, .ref q1), (1, .ref q0), (0, .ref b)] hC d_law_15 rfl (by decide) rfl ?_
  refine z_iconst (v := nI 0) hC d_law_16 (by decide) ?_
  refine z_istore_n [(3, .int (nI 0)), (2, .ref q1), (1, .ref q0), (0, .ref b)] hC d_law_17 rfl (by decide) rfl ?_
  intro H locs ls hP hD hS hl
  obtain ⟨hJ, hAd⟩ := zw_J (Γ := Γ) (sa := sa) hD
  have hP' := zw_P (sa := sa) hP
  refine W.widen (k := 600000) (n := 7302250) (Nat.le_of_ble_eq_true rfl) (Nat.le_of_ble_eq_true rfl) ?_
  obtain ⟨hx, hb, hml, hnL, hown, hts, hK, hA, hR⟩ := hC
  have hCx : tt_Cx (zG Γ t sa q0 u q1 v) κ code "TideTableLaw" 4 14 538 := ⟨hx, hb, hml, hnL, hown, hts, hK.1, hJ, zSx.to hSx hAd, by rw [hR]; exact Nat.le_of_ble_eq_true rfl, by rw [hR]; exact Nat.le_of_ble_eq_true rfl, by rw [hR, hc]; exact Nat.le_of_ble_eq_true rfl, by rw [hR, hs]; exact Nat.le_of_ble_eq_true rfl⟩
  have hE' : ∀ (st : tt_St) (i : Nat), tt_V (zG Γ t sa q0 u q1 v) κ () st 1192 (lw_lv (zG Γ t sa q0 u q1 v) b i) [.int 1] := by
    intro st i H locs ls hP hS hl
    have h := hE H locs ls (fun q hq => hAd _ (hS.2.2 q hq))
    rw [← hc, ← hs] at h
    exact h
  have hV := lw_loop (T := ()) (b := b) (L := L) (xs := xs) hCx ⟨hX, hbl, fun h => absurd (hAd _ h) (Nat.not_le.mpr hbl)⟩ hL hE' L 0 0 zst (by omega) (by omega) (by omega) zst_rl
  have hS' : va_S (tt_Ad (zG Γ t sa q0 u q1 v)) (tt_xs κ).heap H [] := ⟨hS.1, fun q h1 h2 => hS.2.1 q h1 (Nat.not_le.mpr h1), fun q hq => by cases hq⟩
  refine va_forget (fun q hq => hS.2.2 q hq) ?_
  have h := hV H [] ls hP' hS' (lv_sub hl [0, 3, 2, 1] rfl)
  rw [← hc, ← hs]
  exact h
/-! THE CLAIM OUT OF ONE WALK OF THE LAW'S BODY. Your part is whole_start (and what it stands on); all else here is the same for every law, but numbers. -/
def R_law : String := "TideTableLaw"
def lw_P (b : Addr) (xs : List Int32) (args : Array Value) (s : State) : Prop := args = #[.ref b] ∧ s.IntsAt b xs ∧ xs.length ≤ 3072 ∧ (Jvm.Cond.and given_1 narrow_1).before args s = true
def lw_Q (_ : Array Value) (s : State) (o : Outcome) (t : State) : Prop := o = .returned (some (.int 1)) ∧ Framed s o t [] 600000 7302250
def lw_Z (below : List Frame) (a : Array Value) (s : State) : State → Prop := fun t => ∃ o, t.status = .running ∧ Ended t below o ∧ lw_Q a s o t
/-- the law's own end, with 1 on the stack, nothing written that was there before, its room as the claim has it -/
theorem lw_ret {p : Program} {l : Launch} {e : Env} {s : State} {m : MethodId} {below : List Frame} {meth : Method} {c : Code} {b : Nat} (hx : p.tables.exec = Jvm.exec) (hb : c.code = code) (hr : meth.sig.returnType = ret) (hlocks : meth.locks = false) {pc : Nat} {H : Heap} {ls : Array Slot} (hdg : decode code pc = .ok (.ireturn, 1)) : W p l e room_1 s m #[Value.ref b] below meth c H [] 600000 7302250 (lw_Z below #[Value.ref b] s) (F0 m pc ls [.int 1]) := by
  intro T hT X
  obtain ⟨fs, hret, hrun, hended, hW, hframe⟩ := X.leave (v := some (.int 1)) (hlocks := hlocks) (fun h => by rw [hr] at h; cases h)
  have hmeth' : T.vm.method? m = some meth := X.method'
  refine ⟨T.setFrames fs, ?_, .returned (some (.int 1)), hrun, hended, rfl, ⟨_, rfl⟩, hW, hframe⟩
  jvm_step X.here [X.here.top, hx, hb, hdg, hmeth', hr, ret, narrow_b1]
  (try refine ⟨rfl, ?_⟩); (try refine ⟨rfl, ?_⟩)
  first | (intro acts; rw [hret _ acts rfl rfl rfl]) | rw [hret _ _ rfl rfl rfl]
  exact Steps.refl _
/-- what holds at the law's entry: the machine, the code, the tables' words (any of lw_tbl by 'hts w (by decide +kernel)'), the script of L ints xs at the cell b, what the Statement gives of the start (any of its parts by flat_of_before) -/
def lw_At (p : Program) (s : State) (m : MethodId) (meth : Method) (c : Code) (b L : Nat) (xs : Nat → Int32) : Prop :=
  p.tables.exec = Jvm.exec ∧ c.code = code ∧ meth.sig.returnType = ret ∧ c.maxLocals = 4 ∧ s.vm.findClass R_law = some m.cls ∧ (∀ w ∈ lw_tbl, w.before #[Value.ref b] s = true) ∧ va_X b L xs s s.heap ∧ b < s.heap.size ∧ meth.locks = false ∧ (Jvm.Cond.and given_1 narrow_1).before #[Value.ref b] s = true
/-- the law, from its entry -/
theorem whole_start {p : Program} {e : Env} {s : State} {m : MethodId} {below : List Frame} {meth : Method} {c : Code} (l : Launch) (hflags : l.flags = flags0) {b L : Nat} {xs : Nat → Int32} (hL : L ≤ 3072) (C0 : lw_At p s m meth c b L xs) : W p l e room_1 s m #[Value.ref b] below meth c s.heap [] 0 0 (lw_Z below #[Value.ref b] s) (entryFrame m ([Value.ref b] : List Value).toArray 4) := by
  obtain ⟨hx, hb, hr, hml, hown, hts, hX, hbl, hlocks, hgv⟩ := id C0
  obtain ⟨Γ, t, hS0⟩ := zg_K hts
  obtain ⟨sa, hSx⟩ := zg_all (A := fun q => s.heap.size ≤ q) hts hgv (fun a h => Nat.not_le.mpr h)
  have hw := lw_begin (κ := (p, l, e, room_1, s, m, #[Value.ref b], below, meth, c, (4, 600000, 7302250), (fun _ => lw_Z below #[Value.ref b] s), (fun _ => (none, zst)))) (Γ := Γ) (t := t) (sa := sa) (b := b) (L := L) (xs := xs)
    ⟨hx, hb, hml, rfl, hown, fun w hw => hts w (List.mem_filter.mp hw).1, hS0, fun _ h => h, rfl⟩ hSx hX hbl hL rfl rfl (fun H locs ls hq => va_forget hq (lw_ret hx hb hr hlocks d_law_1192))
  have hl := lv_entry ([.ref b]) (n := 4) (Nat.le_of_ble_eq_true rfl)
  rw [lg_entry_eq]
  exact hw s.heap [] _ (fun k q h => by simp at h) ⟨fun i j p q h => by simp at h, fun k q h => by simp at h⟩ va_S.rf hl

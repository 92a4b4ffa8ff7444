/-! quarter, without a world -/
def zQ (l : Launch) (a : Int32) : Prop := Met l y_mo_quarter (.code y_mo_quarter prog_7_method_3_code 1 (some .int) :: tt_good) { frames := 0, cells := 0, slots := 0, locals := 0 } (va_Pc [.int a] (fun _ => True)) (va_Qi (fun r (_ : Unit) => r = mo_quarter a) (fun _ _ => True) (fun _ => False)) 0 0 (fun _ => False)
theorem zQ_of (l : Launch) (a : Int32) (body : ∀ (p : Program) (e : Env) (R : Room) (s : State) (m : MethodId) (args : Array Value) (below : List Frame) (meth : Method) (c : Code) (Q : State → Prop) (ls : Array Slot), p.tables.exec = Jvm.exec → c.code = prog_7_method_3_code → lv_has ls 1 [(0, .int a)] → (∀ (pc : Nat) (ls : Array Slot), decode prog_7_method_3_code pc = .ok (.ireturn, 1) → W p l e R s m args below meth c s.heap [] 0 0 Q (F0 m pc ls [.int (mo_quarter a)])) → W p l e R s m args below meth c s.heap [] 0 0 Q (F0 m 0 ls [])) : zQ l a := by
  refine Met.ofW (cc := prog_7_method_3_code) (maxL := 1) (ret := some .int) (by decide +kernel) rfl ?_
  intro p e s m args below meth c s₁ B hml hv
  obtain ⟨rfl, -⟩ := hv
  have hl := lv_entry ([.int a]) (n := 1) (Nat.le_of_ble_eq_true rfl)
  rw [lg_entry_eq]
  exact body _ _ _ _ _ _ _ _ _ _ _ B.exec B.bytes hl (fun pc ls hd => W.iret B.exec B.bytes B.returns (fun t ht hW => ⟨⟨_, (), rfl, rfl, trivial⟩, va_S.F va_S.rf ht⟩) (fun q h => by cases h) hd B.notSynchronized)
theorem zQ_all (l : Launch) : ∀ j : Nat, j < 17 → zQ l (nI j) := by
  intro j hj
  match j, hj with
  | 0, _ => exact zQ_of l _ (fun p e R s m args below meth c Q ls hx hb hl k => lv_iload_n hx hb d_mo_quarter_0 rfl (lv_at hl 0 rfl) (lv_tableIn (off := 79) (tgt := 80) hx hb d_mo_quarter_1 (by decide) (by decide) (by rfl) (by decide) (lv_sipush (v := 1000) hx hb d_mo_quarter_80 (by decide) (k _ _ d_mo_quarter_83))))
  | 1, _ => exact zQ_of l _ (fun p e R s m args below meth c Q ls hx hb hl k => lv_iload_n hx hb d_mo_quarter_0 rfl (lv_at hl 0 rfl) (lv_tableIn (off := 83) (tgt := 84) hx hb d_mo_quarter_1 (by decide) (by decide) (by rfl) (by decide) (lv_sipush (v := 995) hx hb d_mo_quarter_84 (by decide) (k _ _ d_mo_quarter_87))))
  | 2, _ => exact zQ_of l _ (fun p e R s m args below meth c Q ls hx hb hl k => lv_iload_n hx hb d_mo_quarter_0 rfl (lv_at hl 0 rfl) (lv_tableIn (off := 87) (tgt := 88) hx hb d_mo_quarter_1 (by decide) (by decide) (by rfl) (by decide) (lv_sipush (v := 981) hx hb d_mo_quarter_88 (by decide) (k _ _ d_mo_quarter_91))))
  | 3, _ => exact zQ_of l _ (fun p e R s m args below meth c Q ls hx hb hl k => lv_iload_n hx hb d_mo_quarter_0 rfl (lv_at hl 0 rfl) (lv_tableIn (off := 91) (tgt := 92) hx hb d_mo_quarter_1 (by decide) (by decide) (by rfl) (by decide) (lv_sipush (v := 957) hx hb d_mo_quarter_92 (by decide) (k _ _ d_mo_quarter_95))))
  | 4, _ => exact zQ_of l _ (fun p e R s m args below meth c Q ls hx hb hl k => lv_iload_n hx hb d_mo_quarter_0 rfl (lv_at hl 0 rfl) (lv_tableIn (off := 95) (tgt := 96) hx hb d_mo_quarter_1 (by decide) (by decide) (by rfl) (by decide) (lv_sipush (v := 924) hx hb d_mo_quarter_96 (by decide) (k _ _ d_mo_quarter_99))))
  | 5, _ => exact zQ_of l _ (fun p e R s m args below meth c Q ls hx hb hl k => lv_iload_n hx hb d_mo_quarter_0 rfl (lv_at hl 0 rfl) (lv_tableIn (off := 99) (tgt := 100) hx hb d_mo_quarter_1 (by decide) (by decide) (by rfl) (by decide) (lv_sipush (v := 882) hx hb d_mo_quarter_100 (by decide) (k _ _ d_mo_quarter_103))))
  | 6, _ => exact zQ_of l _ (fun p e R s m args below meth c Q ls hx hb hl k => lv_iload_n hx hb d_mo_quarter_0 rfl (lv_at hl 0 rfl) (lv_tableIn (off := 103) (tgt := 104) hx hb d_mo_quarter_1 (by decide) (by decide) (by rfl) (by decide) (lv_sipush (v := 831) hx hb d_mo_quarter_104 (by decide) (k _ _ d_mo_quarter_107))))
  | 7, _ => exact zQ_of l _ (fun p e R s m args below meth c Q ls hx hb hl k => lv_iload_n hx hb d_mo_quarter_0 rfl (lv_at hl 0 rfl) (lv_tableIn (off := 107) (tgt := 108) hx hb d_mo_quarter_1 (by decide) (by decide) (by rfl) (by decide) (lv_sipush (v := 773) hx hb d_mo_quarter_108 (by decide) (k _ _ d_mo_quarter_111))))
  | 8, _ => exact zQ_of l _ (fun p e R s m args below meth c Q ls hx hb hl k => lv_iload_n hx hb d_mo_quarter_0 rfl (lv_at hl 0 rfl) (lv_tableIn (off := 111) (tgt := 112) hx hb d_mo_quarter_1 (by decide) (by decide) (by rfl) (by decide) (lv_sipush (v := 707) hx hb d_mo_quarter_112 (by decide) (k _ _ d_mo_quarter_115))))
  | 9, _ => exact zQ_of l _ (fun p e R s m args below meth c Q ls hx hb hl k => lv_iload_n hx hb d_mo_quarter_0 rfl (lv_at hl 0 rfl) (lv_tableIn (off := 115) (tgt := 116) hx hb d_mo_quarter_1 (by decide) (by decide) (by rfl) (by decide) (lv_sipush (v := 634) hx hb d_mo_quarter_116 (by decide) (k _ _ d_mo_quarter_119))))
  | 10, _ => exact zQ_of l _ (fun p e R s m args below meth c Q ls hx hb hl k => lv_iload_n hx hb d_mo_quarter_0 rfl (lv_at hl 0 rfl) (lv_tableIn (off := 119) (tgt := 120) hx hb d_mo_quarter_1 (by decide) (by decide) (by rfl) (by decide) (lv_sipush (v := 556) hx hb d_mo_quarter_120 (by decide) (k _ _ d_mo_quarter_123))))
  | 11, _ => exact zQ_of l _ (fun p e R s m args below meth c Q ls hx hb hl k => lv_iload_n hx hb d_mo_quarter_0 rfl (lv_at hl 0 rfl) (lv_tableIn (off := 123) (tgt := 124) hx hb d_mo_quarter_1 (by decide) (by decide) (by rfl) (by decide) (lv_sipush (v := 471) hx hb d_mo_quarter_124 (by decide) (k _ _ d_mo_quarter_127))))
  | 12, _ => exact zQ_of l _ (fun p e R s m args below meth c Q ls hx hb hl k => lv_iload_n hx hb d_mo_quarter_0 rfl (lv_at hl 0 rfl) (lv_tableIn (off := 127) (tgt := 128) hx hb d_mo_quarter_1 (by decide) (by decide) (by rfl) (by decide) (lv_sipush (v := 383) hx hb d_mo_quarter_128 (by decide) (k _ _ d_mo_quarter_131))))
  | 13, _ => exact zQ_of l _ (fun p e R s m args below meth c Q ls hx hb hl k => lv_iload_n hx hb d_mo_quarter_0 rfl (lv_at hl 0 rfl) (lv_tableIn (off := 131) (tgt := 132) hx hb d_mo_quarter_1 (by decide) (by decide) (by rfl) (by decide) (lv_sipush (v := 290) hx hb d_mo_quarter_132 (by decide) (k _ _ d_mo_quarter_135))))
  | 14, _ => exact zQ_of l _ (fun p e R s m args below meth c Q ls hx hb hl k => lv_iload_n hx hb d_mo_quarter_0 rfl (lv_at hl 0 rfl) (lv_tableIn (off := 135) (tgt := 136) hx hb d_mo_quarter_1 (by decide) (by decide) (by rfl) (by decide) (lv_sipush (v := 195) hx hb d_mo_quarter_136 (by decide) (k _ _ d_mo_quarter_139))))
  | 15, _ => exact zQ_of l _ (fun p e R s m args below meth c Q ls hx hb hl k => lv_iload_n hx hb d_mo_quarter_0 rfl (lv_at hl 0 rfl) (lv_tableIn (off := 139) (tgt := 140) hx hb d_mo_quarter_1 (by decide) (by decide) (by rfl) (by decide) (lv_bipush (v := 98) hx hb d_mo_quarter_140 (by decide) (k _ _ d_mo_quarter_142))))
  | 16, _ => exact zQ_of l _ (fun p e R s m args below meth c Q ls hx hb hl k => lv_iload_n hx hb d_mo_quarter_0 rfl (lv_at hl 0 rfl) (lv_tableOut (tgt := 143) hx hb d_mo_quarter_1 (by decide) (by decide) (lv_iconst (v := 0) hx hb d_mo_quarter_143 (by decide) (k _ _ d_mo_quarter_144))))
  | q + 17, h => exact absurd h (by omega)
section ZQ
variable {Γ : va_G} {t : zz_T} {A : Nat → Prop} {κ : tt_X Unit} {ws : va_W} {ce sl pc : Nat} {lv : List (Nat × Value)} {rest : List Value} {cc : ByteArray} {own : String} {nL : Nat} {rm : Room}
theorem z_callQ {j index : Nat} {x : Int32} (hj : j < 17) (ex : x = nI j) (hC : zC Γ t A κ cc own nL rm) (hd : decode cc pc = .ok (.invokestatic index, 3)) (hm : Cond.methodLink own index y_mo_quarter ∈ tt_good) (hroom : (Nat.ble 1 rm.frames && Nat.ble 20 rm.locals) = true) (hroom2 : (Nat.ble ce rm.cells && Nat.ble sl rm.slots) = true) (hcat : (rest.map fun v => v.category).sum ≤ 8)
    (k : zV Γ A κ ws ce sl (pc + 3) lv (.int (mo_quarter x) :: rest)) : zV Γ A κ ws ce sl pc lv (.int x :: rest) := by
  subst ex
  obtain ⟨hx, hb, hml, hnL, hown, hts, hK, hA, hRm⟩ := hC; intro H locs ls hP hD hS hl
  rw [Bool.and_eq_true] at hroom hroom2
  have r1 := Nat.le_of_ble_eq_true hroom.1
  have r2 := Nat.le_of_ble_eq_true hroom.2
  have r3 := Nat.le_of_ble_eq_true hroom2.1
  have r4 := Nat.le_of_ble_eq_true hroom2.2
  rw [← hRm] at r1 r2 r3 r4
  have hw := mw_mo_quarter
  refine va_calli (va_runS (As := [.int (nI j)]) (rest := rest) ⟨hx, hb, hml, hown, hts⟩ (zQ_all (tt_xl κ) j hj) ⟨callB_of 1 hts (tt_goodIn hw.1) rfl rfl rfl (hts _ hw.2.1) (hts _ hm) hw.2.2 ⟨r1, r2⟩, hts _ ms_mo_quarter⟩ ⟨fun a U g mk h => h, fun U hU hW => ⟨rfl, trivial⟩⟩ rfl rfl (by rw [← hnL]; exact hl.1) rfl (lv_room hcat) hd ⟨r3, r4⟩) hS (fun _ _ h => h.elim) (fun _ h => h.elim) (fun r u t1 H1 locs1 ht hvm hw1 hB hz1 hk1 hS1 => ?_)
  subst hw1
  exact k H1 locs1 ls (hP.kept (fun i q hq => hk1 q.1 ((hP i q hq).lt) (fun h => h))) hD hS1 hl
theorem z_like {a n : Nat} {c0 : ClassId} {f g : Nat → Int32} (p : Nat) (ws' : va_W) (he : ws[p]? = some (a, .inl (c0, n, .inl f))) (hfg : ∀ j, j < n → f j = g j) (hws : ws.set p (a, .inl (c0, n, .inl g)) = ws') (k : zV Γ A κ ws' ce sl pc lv rest) : zV Γ A κ ws ce sl pc lv rest := by
  subst hws
  intro H locs ls hP hD hS hl
  have ec : vp_cell c0 (n, .inl f) = vp_cell c0 (n, .inl g) := by
    rw [vp_cell_i, vp_cell_i]
    unfold arrV
    congr 1
    congr 1
    funext j
    show Value.int (f j.1) = Value.int (g j.1)
    rw [hfg j.1 j.2]
  have h1 : va_at Γ tt_cl (a, .inl (c0, n, .inl g)) H := by
    have h0 := hP p _ he
    show H[a]? = some (vp_cell c0 (n, .inl g))
    rw [← ec]
    exact h0
  exact k H locs ls (hP.set hD he h1 (fun _ _ => rfl)) (hD.set he) hS hl
/-- an array of the reference is made and kept in a field -/
theorem z_arrI {h n f index i0 : Nat} {m : Int32} {fs : List Value} {as : va_W} (fs' : Nat → List Value) (as' : Nat → va_W) (hfs : ∀ q, fs.set f (.ref q) = fs' q) (has : ∀ q, as ++ [(q, .inl (t.1, n, .inl (fun _ => 0)))] = as' q) (hC : zC Γ t A κ cc "TideTableModel" nL rm) (hI : (tt_xM κ).name = "<init>") (h0 : lv[i0]? = some (0, .ref h)) (d0 : decode cc pc = .ok (.aload_n 0, 1)) (pc2 : Nat) (hpush : zV Γ A κ ((h, .inr (5, fs)) :: as) ce sl pc2 lv (.int m :: [.ref h]) → zV Γ A κ ((h, .inr (5, fs)) :: as) ce sl (pc + 1) lv [.ref h]) (d2 : decode cc pc2 = .ok (.newarray .int, 2)) (d3 : decode cc (pc2 + 2) = .ok (.putfield index, 3)) (hn : ¬ m < 0) (hN : m.toNatClampNeg = n) (hby : Nat.ble (n * componentBytes .int) 536870912 = true) (hr : (Nat.ble (ce + 1) rm.cells && Nat.ble (sl + n) rm.slots) = true) (hf : tt_FL "TideTableModel" index 5 f) (hp : zFF 5 f "TideTableModel" (.array .int)) (hlen : f < fs.length)
    (k : ∀ q : Nat, zV Γ A κ ((h, .inr (5, fs' q)) :: as' q) (ce + 1) (sl + n) (pc2 + 2 + 3) lv []) : zV Γ A κ ((h, .inr (5, fs)) :: as) ce sl pc lv [] := by
  refine z_aload_n i0 hC d0 h0 ?_
  refine hpush ?_
  refine z_newI n hC d2 hn hN hby zo_I hr (fun q => ?_)
  refine z_putF 0 ((h, .inr (5, fs' q)) :: as' q) hC hI d3 hf hp rfl rfl rfl hlen (by rw [← hfs, ← has]; rfl) ?_
  exact k q
theorem z_arrB {h n f index i0 : Nat} {m : Int32} {fs : List Value} {as : va_W} (fs' : Nat → List Value) (as' : Nat → va_W) (hfs : ∀ q, fs.set f (.ref q) = fs' q) (has : ∀ q, as ++ [(q, .inl (t.2.1, n, .inl (fun _ => 0)))] = as' q) (hC : zC Γ t A κ cc "TideTableModel" nL rm) (hI : (tt_xM κ).name = "<init>") (h0 : lv[i0]? = some (0, .ref h)) (d0 : decode cc pc = .ok (.aload_n 0, 1)) (pc2 : Nat) (hpush : zV Γ A κ ((h, .inr (5, fs)) :: as) ce sl pc2 lv (.int m :: [.ref h]) → zV Γ A κ ((h, .inr (5, fs)) :: as) ce sl (pc + 1) lv [.ref h]) (d2 : decode cc pc2 = .ok (.newarray .byte, 2)) (d3 : decode cc (pc2 + 2) = .ok (.putfield index, 3)) (hn : ¬ m < 0) (hN : m.toNatClampNeg = n) (hby : Nat.ble (n * componentBytes .byte) 536870912 = true) (hr : (Nat.ble (ce + 1) rm.cells && Nat.ble (sl + n) rm.slots) = true) (hf : tt_FL "TideTableModel" index 5 f) (hp : zFF 5 f "TideTableModel" (.array .byte)) (hlen : f < fs.length)
    (k : ∀ q : Nat, zV Γ A κ ((h, .inr (5, fs' q)) :: as' q) (ce + 1) (sl + n) (pc2 + 2 + 3) lv []) : zV Γ A κ ((h, .inr (5, fs)) :: as) ce sl pc lv [] := by
  refine z_aload_n i0 hC d0 h0 ?_
  refine hpush ?_
  refine z_newB n hC d2 hn hN hby zo_B hr (fun q => ?_)
  refine z_putF 0 ((h, .inr (5, fs' q)) :: as' q) hC hI d3 hf hp rfl rfl rfl hlen (by rw [← hfs, ← has]; rfl) ?_
  exact k q
end ZQ

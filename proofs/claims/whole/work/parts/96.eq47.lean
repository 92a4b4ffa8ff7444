/-! what holds at the law's entry of the constants -/
def zSx (A : Nat → Prop) (sa : Nat → Nat) (U : State) : Prop :=
  (∀ j, j < 3 → va_Z "TideTable" (tt_sN j) "[I" (.ref (sa j)) A U U.heap ∧ va_T .int (sa j) (tt_sn j) (fun i => .int (tt_sv j i)) A U U.heap) ∧
  va_Z "java/lang/String" "COMPACT_STRINGS" "Z" (.int 1) A U U.heap ∧
  (∀ w ∈ tt_nest, va_Nw w U) ∧ vk_R "TideTable$Page" 44 "psbft" (sa 3) U ∧ vk_S 1 [5] [[112, 115, 98, 102, 116]] (fun _ => sa 3) (fun _ => sa 4) A U U.heap
theorem zSx.to {A : Nat → Prop} {G : tt_G} {s : State} (h : zSx A (tt_sa G) s) (hAB : ∀ q, tt_Ad G q → A q) : tt_Sx G s :=
  ⟨fun j hj => ⟨(h.1 j hj).1.narrow hAB, (h.1 j hj).2.narrow hAB⟩, h.2.1.narrow hAB, h.2.2.1, h.2.2.2.1, h.2.2.2.2.narrow hAB⟩
theorem zg_Q : Cond.laysStatic "TideTable" "QUARTER" "[I" ∈ lw_tbl := List.mem_of_getElem? (i := 393) (by decide +kernel)
theorem zg_C : Cond.laysStatic "TideTable" "COULD" "[I" ∈ lw_tbl := List.mem_of_getElem? (i := 358) (by decide +kernel)
theorem zg_D : Cond.laysStatic "TideTable" "DIGEST_TICKS" "[I" ∈ lw_tbl := List.mem_of_getElem? (i := 585) (by decide +kernel)
theorem zg_S : Cond.laysStatic "java/lang/String" "COMPACT_STRINGS" "Z" ∈ lw_tbl := List.mem_of_getElem? (i := 238) (by decide +kernel)
theorem zg_iT : Cond.initialized "TideTable" ∈ lw_tbl := List.mem_of_getElem? (i := 43) (by decide +kernel)
theorem zg_iS : Cond.initialized "java/lang/String" ∈ lw_tbl := List.mem_of_getElem? (i := 49) (by decide +kernel)
theorem zg_r : Cond.stringRef "TideTable$Page" 44 "psbft" ∈ lw_tbl := List.mem_of_getElem? (i := 224) (by decide +kernel)
theorem zg_aP : Cond.arrayOver (.object "TideTable$Port") ∈ lw_tbl := List.mem_of_getElem? (i := 93) (by decide +kernel)
theorem zg_aW : Cond.arrayOver (.object "TideTable$Wave") ∈ lw_tbl := List.mem_of_getElem? (i := 100) (by decide +kernel)
theorem zg_n0 : Cond.methodLinkNest "TideTable" 11 ⟨"TideTable$Page", "<init>", "()V"⟩ "TideTable" ∈ lw_tbl := List.mem_of_getElem? (i := 66) (by decide +kernel)
theorem zg_n1 : Cond.methodLinkNest "TideTable$Port" 21 ⟨"TideTable$Wave", "<init>", "()V"⟩ "TideTable" ∈ lw_tbl := List.mem_of_getElem? (i := 102) (by decide +kernel)
theorem zg_n2 : Cond.methodLinkNest "TideTable$Page" 40 ⟨"TideTable", "within", "(III)Z"⟩ "TideTable" ∈ lw_tbl := List.mem_of_getElem? (i := 311) (by decide +kernel)
theorem zg_n3 : Cond.methodLinkNest "TideTable$Wave" 19 ⟨"TideTable", "roundAt", "(I)I"⟩ "TideTable" ∈ lw_tbl := List.mem_of_getElem? (i := 406) (by decide +kernel)
theorem zg_nest {s : State} {b : Nat} (hts : ∀ w ∈ lw_tbl, w.before #[Value.ref b] s = true) : ∀ w ∈ tt_nest, va_Nw w s := by
  intro w hw
  simp only [tt_nest, List.mem_cons, List.not_mem_nil, or_false] at hw
  rcases hw with rfl | rfl | rfl | rfl
  · exact va_Nw.of rfl (hts _ zg_n0)
  · exact va_Nw.of rfl (hts _ zg_n1)
  · exact va_Nw.of rfl (hts _ zg_n2)
  · exact va_Nw.of rfl (hts _ zg_n3)
theorem zg_QT {s : State} {b : Nat} {A : Nat → Prop} (hts : ∀ w ∈ lw_tbl, w.before #[Value.ref b] s = true) (hgv : (Jvm.Cond.and given_1 narrow_1).before #[Value.ref b] s = true) (hA : ∀ a : Nat, a < s.heap.size → ¬ A a) : ∃ q : Nat, va_Z "TideTable" (tt_sN 0) "[I" (.ref q) A s s.heap ∧ va_T .int q (tt_sn 0) (fun i => .int (tt_sv 0 i)) A s s.heap := by
  have hs := flat_of_before _ hgv
  have hel : ∀ i : Nat, i < 17 → (Term.elem (.static "TideTable" "QUARTER" "[I") (.int (Int32.ofNat i))).eval #[Value.ref b] s none [] s = some (.int (tt_sv 0 i)) := by
    intro i hi
    match i, hi with
    | 0, _ => exact va_eqt (z := 1000) (hs _ (by decide +kernel))
    | 1, _ => exact va_eqt (z := 995) (hs _ (by decide +kernel))
    | 2, _ => exact va_eqt (z := 981) (hs _ (by decide +kernel))
    | 3, _ => exact va_eqt (z := 957) (hs _ (by decide +kernel))
    | 4, _ => exact va_eqt (z := 924) (hs _ (by decide +kernel))
    | 5, _ => exact va_eqt (z := 882) (hs _ (by decide +kernel))
    | 6, _ => exact va_eqt (z := 831) (hs _ (by decide +kernel))
    | 7, _ => exact va_eqt (z := 773) (hs _ (by decide +kernel))
    | 8, _ => exact va_eqt (z := 707) (hs _ (by decide +kernel))
    | 9, _ => exact va_eqt (z := 634) (hs _ (by decide +kernel))
    | 10, _ => exact va_eqt (z := 556) (hs _ (by decide +kernel))
    | 11, _ => exact va_eqt (z := 471) (hs _ (by decide +kernel))
    | 12, _ => exact va_eqt (z := 383) (hs _ (by decide +kernel))
    | 13, _ => exact va_eqt (z := 290) (hs _ (by decide +kernel))
    | 14, _ => exact va_eqt (z := 195) (hs _ (by decide +kernel))
    | 15, _ => exact va_eqt (z := 98) (hs _ (by decide +kernel))
    | 16, _ => exact va_eqt (z := 0) (hs _ (by decide +kernel))
    | x + 17, h => exact absurd h (by omega)
  obtain ⟨q, h1, h2⟩ := va_Tof (tm := .static "TideTable" "QUARTER" "[I") (ty := .int) (N := 17) (f := fun i => .int (tt_sv 0 i)) (A := A) (by decide) (hs _ (by decide +kernel)) (va_eqt (z := 17) (hs _ (by decide +kernel))) hel hA
  exact ⟨q, va_Zof (hts _ zg_Q) (hts _ zg_iT) h1 hA, h2⟩
theorem zg_CT {s : State} {b : Nat} {A : Nat → Prop} (hts : ∀ w ∈ lw_tbl, w.before #[Value.ref b] s = true) (hgv : (Jvm.Cond.and given_1 narrow_1).before #[Value.ref b] s = true) (hA : ∀ a : Nat, a < s.heap.size → ¬ A a) : ∃ q : Nat, va_Z "TideTable" (tt_sN 1) "[I" (.ref q) A s s.heap ∧ va_T .int q (tt_sn 1) (fun i => .int (tt_sv 1 i)) A s s.heap := by
  have hs := flat_of_before _ hgv
  have hel : ∀ i : Nat, i < 4 → (Term.elem (.static "TideTable" "COULD" "[I") (.int (Int32.ofNat i))).eval #[Value.ref b] s none [] s = some (.int (tt_sv 1 i)) := by
    intro i hi
    match i, hi with
    | 0, _ => exact va_eqt (z := 6) (hs _ (by decide +kernel))
    | 1, _ => exact va_eqt (z := 4) (hs _ (by decide +kernel))
    | 2, _ => exact va_eqt (z := 8) (hs _ (by decide +kernel))
    | 3, _ => exact va_eqt (z := 16) (hs _ (by decide +kernel))
    | x + 4, h => exact absurd h (by omega)
  obtain ⟨q, h1, h2⟩ := va_Tof (tm := .static "TideTable" "COULD" "[I") (ty := .int) (N := 4) (f := fun i => .int (tt_sv 1 i)) (A := A) (by decide) (hs _ (by decide +kernel)) (va_eqt (z := 4) (hs _ (by decide +kernel))) hel hA
  exact ⟨q, va_Zof (hts _ zg_C) (hts _ zg_iT) h1 hA, h2⟩
theorem zg_DT {s : State} {b : Nat} {A : Nat → Prop} (hts : ∀ w ∈ lw_tbl, w.before #[Value.ref b] s = true) (hgv : (Jvm.Cond.and given_1 narrow_1).before #[Value.ref b] s = true) (hA : ∀ a : Nat, a < s.heap.size → ¬ A a) : ∃ q : Nat, va_Z "TideTable" (tt_sN 2) "[I" (.ref q) A s s.heap ∧ va_T .int q (tt_sn 2) (fun i => .int (tt_sv 2 i)) A s s.heap := by
  have hs := flat_of_before _ hgv
  have hel : ∀ i : Nat, i < 6 → (Term.elem (.static "TideTable" "DIGEST_TICKS" "[I") (.int (Int32.ofNat i))).eval #[Value.ref b] s none [] s = some (.int (tt_sv 2 i)) := by
    intro i hi
    match i, hi with
    | 0, _ => exact va_eqt (z := 0) (hs _ (by decide +kernel))
    | 1, _ => exact va_eqt (z := 7) (hs _ (by decide +kernel))
    | 2, _ => exact va_eqt (z := 50) (hs _ (by decide +kernel))
    | 3, _ => exact va_eqt (z := 144) (hs _ (by decide +kernel))
    | 4, _ => exact va_eqt (z := 400) (hs _ (by decide +kernel))
    | 5, _ => exact va_eqt (z := 1439) (hs _ (by decide +kernel))
    | x + 6, h => exact absurd h (by omega)
  obtain ⟨q, h1, h2⟩ := va_Tof (tm := .static "TideTable" "DIGEST_TICKS" "[I") (ty := .int) (N := 6) (f := fun i => .int (tt_sv 2 i)) (A := A) (by decide) (hs _ (by decide +kernel)) (va_eqt (z := 6) (hs _ (by decide +kernel))) hel hA
  exact ⟨q, va_Zof (hts _ zg_D) (hts _ zg_iT) h1 hA, h2⟩
theorem zg_str {s : State} {b : Nat} {A : Nat → Prop} (hts : ∀ w ∈ lw_tbl, w.before #[Value.ref b] s = true) (hgv : (Jvm.Cond.and given_1 narrow_1).before #[Value.ref b] s = true) (hA : ∀ a : Nat, a < s.heap.size → ¬ A a) : ∃ q r : Nat, vk_R "TideTable$Page" 44 "psbft" q s ∧ vk_S 1 [5] [[112, 115, 98, 102, 116]] (fun _ => q) (fun _ => r) A s s.heap := by
  have hs := flat_of_before _ hgv
  have hel : ∀ i : Nat, i < 1 → ∀ j : Nat, j < ([5] : List Nat).getD i 0 → (Cond.eq (.elem (.field (.string "TideTable$Page" 44) "java/lang/String" "value" "[B") (.int (Int32.ofNat j))) (.int ((([[112, 115, 98, 102, 116]] : List (List Int32)).getD i []).getD j 0))).before #[Value.ref b] s = true := by
    intro i hi j hj
    have e : i = 0 := by omega
    subst e
    match j, hj with
    | 0, _ => exact hs (.eq (.elem (.field (.string "TideTable$Page" 44) "java/lang/String" "value" "[B") (.int 0)) (.int 112)) (by decide +kernel)
    | 1, _ => exact hs (.eq (.elem (.field (.string "TideTable$Page" 44) "java/lang/String" "value" "[B") (.int 1)) (.int 115)) (by decide +kernel)
    | 2, _ => exact hs (.eq (.elem (.field (.string "TideTable$Page" 44) "java/lang/String" "value" "[B") (.int 2)) (.int 98)) (by decide +kernel)
    | 3, _ => exact hs (.eq (.elem (.field (.string "TideTable$Page" 44) "java/lang/String" "value" "[B") (.int 3)) (.int 102)) (by decide +kernel)
    | 4, _ => exact hs (.eq (.elem (.field (.string "TideTable$Page" 44) "java/lang/String" "value" "[B") (.int 4)) (.int 116)) (by decide +kernel)
    | x + 5, h => exact absurd (show x + 5 < 5 from h) (by omega)
  have hle : ∀ i : Nat, i < 1 → (Cond.eq (.length (.field (.string "TideTable$Page" 44) "java/lang/String" "value" "[B")) (.int (Int32.ofNat (([5] : List Nat).getD i 0)))).before #[Value.ref b] s = true := by
    intro i hi
    have e : i = 0 := by omega
    subst e
    exact hs (.eq (.length (.field (.string "TideTable$Page" 44) "java/lang/String" "value" "[B")) (.int 5)) (by decide +kernel)
  have hN : ∀ i : Nat, i < 1 → ([5] : List Nat).getD i 0 < 2 ^ 31 := by
    intro i hi
    have e : i = 0 := by omega
    subst e
    decide
  obtain ⟨adK, adV, h1, h2⟩ := vk_Sof (args := #[Value.ref b]) (s := s) (N := 1) (tm := fun _ => .string "TideTable$Page" 44) (len := [5]) (byt := [[112, 115, 98, 102, 116]]) (A := A) hN (fun i hi => hs _ (by decide +kernel)) (fun i hi => hs _ (by decide +kernel)) (fun i hi => hs _ (by decide +kernel)) hle hel (fun i j hi hj hij => absurd (by omega : i = j) hij) hA
  refine ⟨adK 0, adV 0, vk_R.of (hts _ zg_r) (h2 0 (by omega)), fun i hi => ?_, fun i j hi hj _ => by omega⟩
  have e : i = 0 := by omega
  subst e
  exact h1.1 0 (by omega)
theorem zg_all {s : State} {b : Nat} {A : Nat → Prop} (hts : ∀ w ∈ lw_tbl, w.before #[Value.ref b] s = true) (hgv : (Jvm.Cond.and given_1 narrow_1).before #[Value.ref b] s = true) (hA : ∀ a : Nat, a < s.heap.size → ¬ A a) : ∃ sa : Nat → Nat, zSx A sa s := by
  obtain ⟨q0, a1, a2⟩ := zg_QT hts hgv hA
  obtain ⟨q1, b1, b2⟩ := zg_CT hts hgv hA
  obtain ⟨q2, c1, c2⟩ := zg_DT hts hgv hA
  obtain ⟨q3, q4, d1, d2⟩ := zg_str hts hgv hA
  have hs := flat_of_before _ hgv
  refine ⟨zl [q0, q1, q2, q3, q4], fun j hj => ?_, va_Zof (hts _ zg_S) (hts _ zg_iS) (va_eqt (z := 1) (hs _ (by decide +kernel))) hA, zg_nest hts, d1, d2⟩
  match j, hj with
  | 0, _ => exact ⟨a1, a2⟩
  | 1, _ => exact ⟨b1, b2⟩
  | 2, _ => exact ⟨c1, c2⟩
  | x + 3, h => exact absurd h (by omega)
theorem zg_K {s : State} {b : Nat} (hts : ∀ w ∈ lw_tbl, w.before #[Value.ref b] s = true) : ∃ (Γ : va_G) (t : zz_T), zz_S Γ t s := by
  have htg : ∀ w ∈ tt_good, w.before #[Value.ref b] s = true := fun w hw => hts w (List.mem_filter.mp hw).1
  obtain ⟨c0, s0, k0⟩ := u_known (C := R_Pg) (T := F_Pg) (N := 4) (n := 4) htg i_Pg (htg _ zi_Pg)
  obtain ⟨c1, s1, k1⟩ := u_known (C := R_Po) (T := F_Po) (N := 7) (n := 7) htg i_Po (htg _ zi_Po)
  obtain ⟨c2, s2, k2⟩ := u_known (C := R_Se) (T := F_Se) (N := 3) (n := 3) htg i_Se (htg _ zi_Se)
  obtain ⟨c3, s3, k3⟩ := u_known (C := R_Wa) (T := F_Wa) (N := 3) (n := 3) htg i_Wa (htg _ zi_Wa)
  obtain ⟨c4, s4, k4⟩ := u_known (C := R_Tt) (T := F_Tt) (N := 7) (n := 7) htg i_Tt (htg _ zi_Tt)
  obtain ⟨c5, s5, k5⟩ := u_known (C := R_Mo) (T := F_Mo) (N := 39) (n := 39) htg i_Mo (htg _ zi_Mo)
  obtain ⟨aI, kI, mI, i1, i2, i3⟩ := Cond.arrayClass_spec (htg _ zo_I)
  obtain ⟨aB, kB, mB, j1, j2, j3⟩ := Cond.arrayClass_spec (htg _ zo_B)
  obtain ⟨mP, aP, kP, p1, p2, p3, p4, p5⟩ := Cond.arrayOver_spec (hts _ zg_aP)
  obtain ⟨mW, aW, kW, w1, w2, w3, w4, w5⟩ := Cond.arrayOver_spec (hts _ zg_aW)
  refine ⟨(fun k => if k = 0 then c0 else if k = 1 then c1 else if k = 2 then c2 else if k = 3 then c3 else if k = 4 then c4 else c5, fun k => if k = 0 then s0 else if k = 1 then s1 else if k = 2 then s2 else if k = 3 then s3 else if k = 4 then s4 else s5), (aI, aB, aP, aW), ⟨fun k q hq => ?_, fun k q hq => ?_⟩, va_AO.of (hts _ zg_aP), va_AO.of (hts _ zg_aW), zg_nest hts⟩
  · match k, hq with
    | 0, hq => cases hq; exact k0
    | 1, hq => cases hq; exact k1
    | 2, hq => cases hq; exact k2
    | 3, hq => cases hq; exact k3
    | 4, hq => cases hq; exact k4
    | 5, hq => cases hq; exact k5
    | k + 6, hq => simp [tt_cl] at hq
  · match k, hq with
    | 0, hq => cases hq; exact ⟨fun n z => ⟨fun k h => (by cases h), kI, i2, mI, i3⟩, i1⟩
    | 1, hq => cases hq; exact ⟨fun n z => ⟨fun k h => (by cases h), kB, j2, mB, j3⟩, j1⟩
    | 2, hq => cases hq; exact ⟨fun n z => ⟨fun k h => (by cases h), kP, p3, mP, p4⟩, kP, mP, p3, p4, p1, p5⟩
    | 3, hq => cases hq; exact ⟨fun n z => ⟨fun k h => (by cases h), kW, w3, mW, w4⟩, kW, mW, w3, w4, w1, w5⟩
    | k + 4, hq => simp [zz_tys] at hq

/-! the class keeps the part of the reference; the relation over one state -/
theorem rl.kms {k : Nat} {sc sc' sm : tt_St} (h : rl k sc sm) (g : km sc sc') : rl k sc' sm := by
  have h4 := h.many.1
  obtain ⟨b1, b2, b3, b4, b5, b6, b7, b8⟩ := h
  exact ⟨cg_tb b1 (fun o f ho => g.1 o f (by omega)), b2, b3, cg_page b4 (g.1 1 1 (by omega)) (fun j => g.2 2 j (by omega)) (Eq.refl _) (fun _ => Eq.refl _), cg_sea b5 (g.1 3 1 (by omega)) h4 (fun o f ho => g.1 o f (by omega)) (fun o f ho => g.1 o f (by omega)) (Eq.refl _) (fun _ _ _ => Eq.refl _), cg_seen b6 (g.1 3 1 (by omega)) (g.1 3 2 (by omega)) h4 (fun o ho => g.1 o 4 (by omega)) (Eq.refl _) (fun _ _ _ => Eq.refl _), cg_reads b7 (g.1 0 4 (by omega)) (Eq.refl _), cg_kept b8 h4 (fun o f ho => g.1 o f (by omega)) (fun _ _ => Eq.refl _) (fun _ _ _ => Eq.refl _)⟩
def kc (s s' : tt_St) : Prop := (∀ f, tt_I s' 49 f = tt_I s 49 f) ∧ ∀ a i, 50 ≤ a → tt_A s' a i = tt_A s a i
theorem rl.kcs {k : Nat} {sc sm sm' : tt_St} (h : rl k sc sm) (g : kc sm sm') : rl k sc sm' := by
  have h4 := h.many.1
  obtain ⟨b1, b2, b3, b4, b5, b6, b7, b8⟩ := h
  exact ⟨b1, cg_mo b2 (fun f _ => g.1 f) (fun p _ => g.2 54 p (by omega)), cg_rounds b3 (fun j _ => g.2 56 j (by omega)), cg_page b4 (Eq.refl _) (fun _ => Eq.refl _) (g.1 13) (fun j => g.2 60 j (by omega)), cg_sea b5 (Eq.refl _) h4 (fun _ _ _ => Eq.refl _) (fun _ _ _ => Eq.refl _) (g.1 1) (fun a j ha => g.2 a j (by omega)), cg_seen b6 (Eq.refl _) (Eq.refl _) h4 (fun _ _ => Eq.refl _) (g.1 9) (fun a j ha => g.2 a j (by omega)), cg_reads b7 (Eq.refl _) (g.1 0), cg_kept b8 h4 (fun _ _ _ => Eq.refl _) (fun f _ => g.1 f) (fun a j ha => g.2 a j (by omega))⟩
theorem kc_rfl (s : tt_St) : kc s s := ⟨fun _ => Eq.refl _, fun _ _ _ => Eq.refl _⟩
theorem kc_pI {s t : tt_St} {o f : Nat} {v : Int32} (ho : ¬ o = 49) (h : kc s t) : kc s (tt_pI t o f v) := ⟨fun g => (px_I (by omega)).trans (h.1 g), h.2⟩
theorem kc_pA {s t : tt_St} {a i : Nat} {v : Int32} (ha : a < 50) (h : kc s t) : kc s (tt_pA t a i v) := ⟨h.1, fun b j hb => (px_A (by omega)).trans (h.2 b j hb)⟩
theorem kc_mk {α : Type} {s t : tt_St} {x : α} (h : kc s t) : kc s (x, t).2 := h
theorem kc_ite {α : Type} {s : tt_St} {c : Prop} [Decidable c] {a b : α × tt_St} (h1 : c → kc s a.2) (h2 : ¬ c → kc s b.2) : kc s (if c then a else b).2 := by
  by_cases q : c
  · rw [if_pos q]; exact h1 q
  · rw [if_neg q]; exact h2 q
theorem kc_iteS {s : tt_St} {c : Prop} [Decidable c] {a b : tt_St} (h1 : c → kc s a) (h2 : ¬ c → kc s b) : kc s (if c then a else b) := by
  by_cases q : c
  · rw [if_pos q]; exact h1 q
  · rw [if_neg q]; exact h2 q
theorem kc_fill {s st : tt_St} {o r : Nat} {p f len : Int32} (hr : r < 50) (h : kc s st) : kc s (se_fill st o r p f len) := ⟨fun g => (tt_I1 se_fill_I 49 g).trans (h.1 g), fun a i ha => (fl_other (by omega) i).trans (h.2 a i ha)⟩
theorem kc_put {s st : tt_St} {o : Nat} {a b c : Int32} (ho : ¬ o = 49) (h : kc s st) : kc s (wa_put st o a b c) := kc_pI ho (kc_pI ho (kc_pI ho h))
theorem kc_begin {s st : tt_St} {o : Nat} {a b c d : Int32} (ho : ¬ o = 49) (h : kc s st) : kc s (po_begin st o a b c d) := kc_pI ho (kc_pI ho (kc_pI ho (kc_pI ho (kc_pI ho (kc_pI ho h)))))
theorem kc_putWave {s st : tt_St} {o : Nat} {a b c : Int32} (ho : 9 ≤ o ∧ o < 17) (h : kc s st) : kc s (po_putWave st o a b c) := by
  unfold po_putWave
  refine kc_iteS (fun _ => h) (fun q => kc_pI (by omega) (kc_put ?_ h))
  have e3 : (3 : Int32).toInt = 3 := rfl
  rw [tt_le, e3] at q
  have : (tt_I st o 6).toNatClampNeg < 3 := by rw [tt_clamp]; omega
  unfold tt_wv; omega
theorem kc_become_l30 {s : tt_St} {o a1 m : Nat} (ho : 9 ≤ o ∧ o < 17) : ∀ (n j : Nat) (st : tt_St), kc s st → kc s (po_become_l30 o a1 m n j st) := by
  intro n
  induction n with
  | zero => intro j st h; rw [po_become_l30]; exact h
  | succ n ih => intro j st h; rw [po_become_l30]; exact ih _ _ (kc_putWave ho h)
theorem kc_become {s st : tt_St} {o a1 : Nat} (ho : 9 ≤ o ∧ o < 17) (h : kc s st) : kc s (po_become st o a1) := by
  unfold po_become
  exact kc_become_l30 ho _ _ _ (kc_pI (by omega) (kc_begin (by omega) h))
theorem kc_sbecome_l18 {s : tt_St} {o a1 m : Nat} (ho : o = 3 ∨ o = 4) : ∀ (n j : Nat) (st : tt_St), j + n ≤ 4 → kc s st → kc s (se_become_l18 o a1 m n j st) := by
  intro n
  induction n with
  | zero => intro j st _ h; rw [se_become_l18]; exact h
  | succ n ih =>
    intro j st hj h
    rw [se_become_l18]
    refine ih _ _ (by omega) (kc_become ?_ h)
    rw [nI_clamp (by omega)]; unfold tt_po; omega
theorem kc_sbecome {s st : tt_St} {o a1 : Nat} (ho : o = 3 ∨ o = 4) (h4 : (tt_I st a1 1).toNatClampNeg ≤ 4) (h : kc s st) : kc s (se_become st o a1) := by
  unfold se_become
  exact kc_sbecome_l18 ho _ _ _ (by omega) (kc_pI (by omega) (kc_pI (by omega) h))
theorem kc_forget_l10 {s : tt_St} {x : Int32} {m : Nat} : ∀ (n j : Nat) (st : tt_St), j + n ≤ 4 → kc s st → kc s (tb_forget_l10 x m n j st) := by
  intro n
  induction n with
  | zero => intro j st _ h; rw [tb_forget_l10]; exact h
  | succ n ih =>
    intro j st hj h
    rw [tb_forget_l10]
    refine ih _ _ (by omega) (kc_pI ?_ h)
    rw [nI_clamp (by omega)]; omega
theorem kc_firstWrong_l12 {s : tt_St} {m : Nat} : ∀ (n j : Nat) (st : tt_St), kc s st → kc s (pg_firstWrong_l12 m n j st).2 := by
  intro n
  induction n with
  | zero => intro j st h; rw [pg_firstWrong_l12]; exact h
  | succ n ih =>
    intro j st h
    rw [pg_firstWrong_l12]
    refine kc_ite (fun _ => kc_ite (fun _ => kc_ite (fun _ => h) (fun _ => ih _ _ h)) (fun _ => kc_ite (fun _ => kc_ite (fun _ => h) (fun _ => ih _ _ h)) (fun _ => ih _ _ (kc_pI (by omega) (kc_pI (by omega) h))))) (fun _ => kc_ite (fun _ => h) (fun _ => ih _ _ h))
theorem kc_firstWrong {s st : tt_St} (h : kc s st) : kc s (pg_firstWrong st).2 := by
  unfold pg_firstWrong
  exact kc_firstWrong_l12 _ _ _ (kc_pI (by omega) (kc_pI (by omega) h))
theorem kc_isWhole {s st : tt_St} (h : kc s st) : kc s (pg_isWhole st).2 := by
  have := kc_firstWrong h
  unfold pg_isWhole
  generalize pg_firstWrong st = r at this ⊢
  unfold pg_isWhole_k4
  exact kc_ite (fun _ => kc_ite (fun _ => this) (fun _ => this)) (fun _ => this)
theorem kc_readPort_l71 {s : tt_St} {a1 : Int32} {o : Nat} (ho : 9 ≤ o ∧ o < 17) : ∀ (n : Nat) (x : Int32) (st : tt_St), kc s st → kc s (pg_readPort_l71 a1 o n x st).2 := by
  intro n
  induction n with
  | zero => intro x st h; rw [pg_readPort_l71]; exact h
  | succ n ih =>
    intro x st h
    rw [pg_readPort_l71]
    exact kc_ite (fun _ => h) (fun _ => kc_ite (fun _ => h) (fun _ => ih _ _ (kc_putWave ho h)))
theorem kc_readPort {s st : tt_St} {a1 : Int32} {o : Nat} (ho : 9 ≤ o ∧ o < 17) (h : kc s st) : kc s (pg_readPort st a1 o).2 := by
  unfold pg_readPort
  exact kc_ite (fun _ => kc_mk (kc_begin (by omega) h)) (fun _ => kc_mk (kc_readPort_l71 ho _ _ _ (kc_begin (by omega) h)))
theorem kc_readInto_l12 {s : tt_St} : ∀ (n : Nat) (x : Int32) (st : tt_St), kc s st → kc s (pg_readInto_l12 3 n x st).2 := by
  intro n
  induction n with
  | zero => intro x st h; rw [pg_readInto_l12]; exact h
  | succ n ih =>
    intro x st h
    rw [pg_readInto_l12]
    refine kc_ite (fun _ => h) (fun _ => kc_ite (fun _ => h) (fun q => ih _ _ (kc_pI (by omega) (kc_readPort ?_ h))))
    have e4 : (4 : Int32).toInt = 4 := rfl
    rw [tt_le, e4] at q
    have : (tt_I st 3 1).toNatClampNeg < 4 := by rw [tt_clamp]; omega
    unfold tt_po; omega
theorem kc_ports {s st : tt_St} (h : kc s st) : kc s (tb_ports st).2 := by
  have := kc_isWhole h
  unfold tb_ports
  generalize pg_isWhole st = r at this ⊢
  unfold tb_ports_k7
  refine kc_ite (fun _ => this) (fun _ => kc_mk (kc_pI (by omega) (kc_pI (by omega) (kc_pI (by omega) ?_))))
  unfold pg_readInto
  exact kc_readInto_l12 _ _ _ (kc_pI (by omega) (kc_pI (by omega) this))
theorem kc_fault {s st : tt_St} (h : kc s st) : kc s (tb_fault st).2 := by
  unfold tb_fault
  exact kc_mk (kc_firstWrong h)
theorem kc_letter {s st : tt_St} {a : Int32} (h : kc s st) : kc s (tb_letter st a).2 := by
  unfold tb_letter
  exact kc_ite (fun _ => h) (fun _ => kc_ite (fun _ => kc_mk (kc_pI (by omega) (kc_pA (by omega) h))) (fun _ => h))
theorem kc_blank {s st : tt_St} (h : kc s st) : kc s (tb_blank st).2 := by
  unfold tb_blank
  exact kc_mk (kc_pI (by omega) h)
theorem rl.kn {k : Nat} {sc sm : tt_St} (h : rl k sc sm) {a : Int32} (c : ¬ se_knows sc 3 a = 0) : a.toNatClampNeg < 4 := by
  rcases h.knows a with ⟨c1, c2⟩ | ⟨c1, c2, p, hp, hp4, rfl⟩
  · exact absurd c1 c
  · rw [nI_clamp (by omega)]; exact hp4
theorem rl.kc_mean {k : Nat} {st sm : tt_St} (h : rl k st sm) (a b : Int32) : kc st (tb_mean st a b).2 := by
  unfold tb_mean
  exact kc_ite (fun _ => kc_rfl _) (fun q => kc_ite (fun _ => kc_rfl _) (fun _ => kc_mk (kc_pI (by have := h.kn q; omega) (kc_rfl _))))
theorem rl.kc_mark {k : Nat} {st sm : tt_St} (h : rl k st sm) (a b : Int32) : kc st (tb_mark st a b).2 := by
  unfold tb_mark
  exact kc_ite (fun _ => kc_rfl _) (fun q => kc_ite (fun _ => kc_rfl _) (fun _ => kc_mk (kc_pI (by have := h.kn q; omega) (kc_rfl _))))
theorem rl.kc_ratio {k : Nat} {st sm : tt_St} (h : rl k st sm) (a b : Int32) : kc st (tb_ratio st a b).2 := by
  unfold tb_ratio
  exact kc_ite (fun _ => kc_rfl _) (fun q => kc_ite (fun _ => kc_rfl _) (fun _ => kc_mk (kc_pI (by have := h.kn q; omega) (kc_rfl _))))
theorem rl.kc_be {k : Nat} {st sm : tt_St} (h : rl k st sm) (a b : Int32) : kc st (tb_be st a b).2 := by
  unfold tb_be
  exact kc_ite (fun _ => kc_rfl _) (fun q => kc_ite (fun _ => kc_rfl _) (fun _ => kc_ite (fun _ => kc_ite (fun _ => kc_rfl _) (fun _ => kc_mk (kc_pI (by have := h.kn q; omega) (kc_rfl _)))) (fun _ => kc_mk (kc_pI (by have := h.kn q; omega) (kc_rfl _)))))
theorem rl.kc_see {k : Nat} {st sm : tt_St} (h : rl k st sm) (a b c : Int32) : kc st (tb_see st a b c).2 := by
  unfold tb_see
  exact kc_ite (fun _ => kc_rfl _) (fun q => kc_ite (fun _ => kc_rfl _) (fun _ => kc_ite (fun _ => kc_mk (kc_pI (by omega) (kc_pI (by have := h.kn q; omega) (kc_rfl _)))) (fun _ => kc_rfl _)))
theorem rl.kc_add {k : Nat} {st sm : tt_St} (h : rl k st sm) (a b c d : Int32) : kc st (tb_add st a b c d).2 := by
  unfold tb_add
  exact kc_ite (fun _ => kc_rfl _) (fun q => kc_ite (fun _ => kc_rfl _) (fun _ => kc_ite (fun _ => kc_rfl _) (fun _ => kc_ite (fun _ => kc_rfl _) (fun _ => kc_ite (fun _ => kc_mk (kc_putWave (by have := h.kn q; omega) (kc_rfl _))) (fun _ => kc_rfl _)))))
theorem rl.kc_take {k : Nat} {sc sm : tt_St} (h : rl k sc sm) (a b : Int32) : kc sc (tb_take sc a b).2 := by
  rw [tb_take]
  rcases h.knows a with ⟨c1, c2⟩ | ⟨c1, c2, p, hp, hp4, rfl⟩
  · rw [if_pos c1]; exact kc_rfl _
  · rw [if_neg c1, nI_clamp (by omega)]
    rcases h.wave hp c2 b with ⟨d1, d2⟩ | ⟨d1, d2, w, hw3, hw, rfl⟩
    · rw [if_pos d1]; exact kc_rfl _
    · rw [if_neg d1]
      have h1 := h.1.1 (9 + p) (tt_ci_po (by omega) (by omega))
      obtain ⟨m, hm⟩ : ∃ m, m = (tt_I sc (9 + p) 6).toNatClampNeg := ⟨_, rfl⟩
      have hm3 : m ≤ 3 := by rw [hm, tt_clamp]; omega
      have em : tt_I sc (9 + p) 6 = nI m := by rw [hm]; exact (tt_nIc h1.1).symm
      rw [← hm] at hw
      rw [po_dropWave, em, nI_clamp (by omega), nI_clamp (by omega)]
      obtain ⟨v1, v2⟩ := tk_c hp4 hw hm3 (m - 1 - w) 0 sc (by omega)
      generalize po_dropWave_l2 (9 + p) (nI w) m (m - 1 - w) 0 sc = s1 at v1 v2 ⊢
      refine kc_mk (kc_pI (by omega) ⟨fun f => ?_, fun x i hx => congrFun (congrFun (congrArg Prod.snd v1) x) i⟩)
      rw [v2, if_neg (by omega)]
theorem rl.kc_forget {k : Nat} {st sm : tt_St} (h : rl k st sm) : kc st (tb_forget st).2 := by
  unfold tb_forget
  exact kc_mk (kc_pI (by omega) (kc_forget_l10 _ _ _ (by have := h.many.1; omega) (kc_rfl _)))
theorem rl.kc_image {k : Nat} {st sm : tt_St} (h : rl k st sm) : kc st (tb_image st).2 := by
  unfold tb_image
  exact kc_ite (fun _ => kc_rfl _) (fun _ => kc_mk (kc_pI (by omega) (kc_sbecome (by omega) h.many.1 (kc_rfl _))))
theorem rl.kc_restore {k : Nat} {st sm : tt_St} (h : rl k st sm) : kc st (tb_restore st).2 := by
  unfold tb_restore
  exact kc_ite (fun _ => kc_rfl _) (fun _ => kc_mk (kc_sbecome (by omega) (tt_cle (h.1.2.1 4 (Eq.refl _)).2) (kc_rfl _)))
theorem kc_tide {s st : tt_St} {a b c d : Int32} (h : kc s st) : kc s (tb_tide st a b c d).2 := by
  unfold tb_tide
  refine kc_ite (fun _ => h) (fun _ => kc_ite (fun _ => h) (fun _ => ?_))
  have := kc_fill (o := 3) (r := 7) (p := a) (f := b * 144 - 1) (len := 289) (by omega) h
  generalize se_fill st 3 7 a (b * 144 - 1) 289 = t at this ⊢
  unfold tb_tide_k55
  exact kc_ite (fun _ => this) (fun _ => kc_ite (fun _ => this) (fun _ => kc_ite (fun _ => kc_ite (fun _ => this) (fun _ => this)) (fun _ => kc_ite (fun _ => this) (fun _ => this))))
theorem kc_gate {s st : tt_St} {a b c d e : Int32} (h : kc s st) : kc s (tb_gate st a b c d e).2 := by
  unfold tb_gate
  refine kc_ite (fun _ => h) (fun _ => kc_ite (fun _ => h) (fun _ => kc_ite (fun _ => h) (fun _ => ?_)))
  have := kc_fill (o := 3) (r := 7) (p := a) (f := b * 144) (len := 144) (by omega) h
  generalize se_fill st 3 7 a (b * 144) 144 = t at this ⊢
  unfold tb_gate_k62
  exact kc_ite (fun _ => this) (fun _ => kc_ite (fun _ => this) (fun _ => kc_ite (fun _ => this) (fun _ => this)))
theorem kc_dry {s st : tt_St} {a b c : Int32} (h : kc s st) : kc s (tb_dry st a b c).2 := by
  unfold tb_dry
  refine kc_ite (fun _ => h) (fun _ => kc_ite (fun _ => h) (fun _ => kc_ite (fun _ => h) (fun _ => ?_)))
  have := kc_fill (o := 3) (r := 7) (p := a) (f := b * 144) (len := 144) (by omega) h
  generalize se_fill st 3 7 a (b * 144) 144 = t at this ⊢
  unfold tb_dry_k62
  exact kc_mk this
theorem slack_st {st : tt_St} {a b c x : Int32} : ∀ n j, (tb_slack_l83 st a b c x n j).2 = st := by
  intro n
  induction n with
  | zero => intro j; rw [tb_slack_l83]
  | succ n ih =>
    intro j
    rw [tb_slack_l83]
    generalize (tt_A st 7 (Int32.toNatClampNeg (nI j))) - (tt_A st 8 (Int32.toNatClampNeg (nI j))) = u
    generalize (tt_A st 7 (Int32.toNatClampNeg ((nI j) - 1))) - (tt_A st 8 (Int32.toNatClampNeg ((nI j) - 1))) = v
    have I := ih (j + 1)
    by_cases c1 : u = 0
    · rw [if_pos c1]
    · rw [if_neg c1]
      by_cases c2 : u ≤ 0
      · rw [if_pos c2]
        by_cases c3 : 0 ≤ u
        · rw [if_pos c3]; exact I
        · rw [if_neg c3]
          by_cases c4 : v ≤ 0
          · rw [if_pos c4]; exact I
          · rw [if_neg c4]
      · rw [if_neg c2]
        by_cases c5 : v < 0
        · rw [if_pos c5]
        · rw [if_neg c5]
          by_cases c3 : 0 ≤ u
          · rw [if_pos c3]; exact I
          · rw [if_neg c3]
            by_cases c4 : v ≤ 0
            · rw [if_pos c4]; exact I
            · rw [if_neg c4]
theorem kc_slack {s st : tt_St} {a b c : Int32} (h : kc s st) : kc s (tb_slack st a b c).2 := by
  unfold tb_slack
  refine kc_ite (fun _ => h) (fun _ => kc_ite (fun _ => h) (fun _ => kc_ite (fun _ => h) (fun _ => ?_)))
  have := kc_fill (o := 3) (r := 8) (p := b) (f := c - 1) (len := 145) (by omega) (kc_fill (o := 3) (r := 7) (p := a) (f := c - 1) (len := 145) (by omega) h)
  generalize se_fill (se_fill st 3 7 a (c - 1) 145) 3 8 b (c - 1) 145 = t at this ⊢
  unfold tb_slack_k80
  rw [slack_st]
  exact this
theorem kc_trip {s st : tt_St} {a b c d : Int32} (h : kc s st) : kc s (tb_trip st a b c d).2 := by
  unfold tb_trip
  refine kc_ite (fun _ => h) (fun _ => kc_ite (fun _ => h) (fun _ => kc_ite (fun _ => h) (fun _ => kc_ite (fun _ => h) (fun _ => ?_))))
  have := kc_fill (o := 3) (r := 8) (p := b) (f := c) (len := 200) (by omega) (kc_fill (o := 3) (r := 7) (p := a) (f := c) (len := 200) (by omega) h)
  generalize se_fill (se_fill st 3 7 a c 200) 3 8 b c 200 = t at this ⊢
  unfold tb_trip_k84
  exact kc_mk this
theorem leave_st {st : tt_St} {a b c d e : Int32} : ∀ n j, (tb_leave_l108 st a b c d e n j).2 = st := by
  intro n
  induction n with
  | zero => intro j; rw [tb_leave_l108]
  | succ n ih =>
    intro j
    rw [tb_leave_l108]
    have I := ih (j + 1)
    by_cases c1 : tb_tripFrom st (nI j) d = -10001
    · rw [if_pos c1]; exact I
    · rw [if_neg c1]
      by_cases c2 : tt_A st 8 (Int32.toNatClampNeg ((nI j) + (tb_tripFrom st (nI j) d))) < e
      · rw [if_pos c2]; exact I
      · rw [if_neg c2]
theorem kc_leave {s st : tt_St} {a b c d e : Int32} (h : kc s st) : kc s (tb_leave st a b c d e).2 := by
  unfold tb_leave
  refine kc_ite (fun _ => h) (fun _ => kc_ite (fun _ => h) (fun _ => kc_ite (fun _ => h) (fun _ => kc_ite (fun _ => h) (fun _ => kc_ite (fun _ => h) (fun _ => ?_)))))
  have := kc_fill (o := 3) (r := 8) (p := b) (f := c * 144) (len := 344) (by omega) (kc_fill (o := 3) (r := 7) (p := a) (f := c * 144) (len := 344) (by omega) h)
  generalize se_fill (se_fill st 3 7 a (c * 144) 344) 3 8 b (c * 144) 344 = t at this ⊢
  unfold tb_leave_k105
  rw [leave_st]
  exact this

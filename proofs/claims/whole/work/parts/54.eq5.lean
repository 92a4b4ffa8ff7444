theorem tt_I1 {s s' : tt_St} (h : s'.1 = s.1) (o f : Nat) : tt_I s' o f = tt_I s o f := by unfold tt_I; rw [h]
/-! heights hang on the fields alone -/
theorem hc_gives {s s' : tt_St} (h : s'.1 = s.1) (o : Nat) (t : Int32) : wa_givesAt s' o t = wa_givesAt s o t := by
  rw [wa_givesAt, wa_givesAt]; simp only [tt_I1 h]
theorem hc_sum_l {s s' : tt_St} (h : s'.1 = s.1) (o : Nat) (t : Int32) : ∀ (n j : Nat) (x : Int32), po_sumAt_l10 s' o t n j x = po_sumAt_l10 s o t n j x := by
  intro n
  induction n with
  | zero => intro j x; rfl
  | succ n ih => intro j x; rw [po_sumAt_l10, po_sumAt_l10, ih, hc_gives h]
theorem hc_sum {s s' : tt_St} (h : s'.1 = s.1) (o : Nat) (t : Int32) : po_sumAt s' o t = po_sumAt s o t := by
  rw [po_sumAt, po_sumAt, hc_sum_l h, tt_I1 h, tt_I1 h]
theorem hc_own_l {s s' : tt_St} (h : s'.1 = s.1) (o : Nat) (t x3 : Int32) : ∀ (n j : Nat) (x : Int32), po_ownHeightAt_l66 s' o t x3 n j x = po_ownHeightAt_l66 s o t x3 n j x := by
  intro n
  induction n with
  | zero => intro j x; rfl
  | succ n ih => intro j x; rw [po_ownHeightAt_l66, po_ownHeightAt_l66, ih, hc_sum h]
theorem hc_own {s s' : tt_St} (h : s'.1 = s.1) (o : Nat) (t : Int32) : po_ownHeightAt s' o t = po_ownHeightAt s o t := by
  rw [po_ownHeightAt, po_ownHeightAt, hc_own_l h, hc_sum h, po_isA, po_isA]; simp only [tt_I1 h]
theorem hc_height {s s' : tt_St} (h : s'.1 = s.1) (o : Nat) (p t : Int32) : se_heightAt s' o p t = se_heightAt s o p t := by
  rw [se_heightAt, se_heightAt, se_knows, se_knows, hc_own h, hc_own h]; simp only [tt_I1 h]
theorem fl_row_l {o r : Nat} {p f len : Int32} : ∀ (n j : Nat) (s0 st : tt_St), st.1 = s0.1 → j + n < 100000 → ∀ i, tt_A (se_fill_l3 o r p f len n j st) r i = if j ≤ i ∧ i < j + n then se_heightAt s0 o p (f + nI i) else tt_A st r i := by
  intro n
  induction n with
  | zero => intro j s0 st _ _ i; rw [if_neg (by omega)]; rfl
  | succ n ih =>
    intro j s0 st h hj i
    rw [se_fill_l3, ih (j + 1) s0 (tt_pA st r (Int32.toNatClampNeg (nI j)) (se_heightAt st o p (f + nI j))) h (by omega) i]
    by_cases c : j + 1 ≤ i ∧ i < j + 1 + n
    · rw [if_pos c, if_pos (by omega)]
    · rw [if_neg c, tt_A_pA, nI_clamp (by omega), upd]
      by_cases ci : i = j
      · rw [if_pos ci, if_pos (by omega), ci, hc_height h]
      · rw [if_neg ci, if_neg (by omega)]
theorem fl_row {o r : Nat} {p f len : Int32} {st : tt_St} (hl : 0 ≤ len.toInt ∧ len.toInt ≤ 344) {i : Nat} (hi : i < len.toNatClampNeg) : tt_A (se_fill st o r p f len) r i = se_heightAt st o p (f + nI i) := by
  rw [se_fill, fl_row_l _ _ st st rfl (by have := tt_cle (n := 344) hl.2; omega), if_pos (by omega)]
theorem fl_other {o r a : Nat} {p f len : Int32} {st : tt_St} (h : a ≠ r) (i : Nat) : tt_A (se_fill st o r p f len) a i = tt_A st a i := by
  rw [se_fill]
  unfold tt_A
  rw [(se_fill_l3_I _ _ _).2.2 a h]
theorem rl.cc {k : Nat} {sc sc' sm : tt_St} (h : rl k sc sm) (h1 : sc'.1 = sc.1) (h2 : ∀ j, tt_A sc' 2 j = tt_A sc 2 j) : rl k sc' sm := by
  have e := tt_I1 h1
  unfold rl tb_ok rl_page rl_sea rl_seen rl_reads rl_kept rl_port rg_port at h ⊢
  simp only [e, h2]
  exact h
theorem rl.fill {k : Nat} {sc sm : tt_St} (h : rl k sc sm) (o r : Nat) (p f len : Int32) (hr : r ≠ 2) : rl k (se_fill sc o r p f len) sm := h.cc se_fill_I (fun j => fl_other (fun q => hr q.symm) j)
theorem rl.mono {k k' : Nat} {sc sm : tt_St} (h : rl k sc sm) (hk : k ≤ k') : rl k' sc sm := by
  obtain ⟨a, b, c, d, e, f, g, i⟩ := h
  exact ⟨a, b, c, d, e, f, ⟨g.1, g.2.1, by have := g.2.2; omega⟩, i⟩
/-! port, wave -/
theorem eq_port_c {k : Nat} {sc sm : tt_St} (h : rl k sc sm) (a b : Int32) : tb_port sc a b = mo_port sm a b := by
  rw [tb_port, mo_port]
  rcases h.knows a with ⟨c1, c2⟩ | ⟨c1, c2, p, hp, hp4, rfl⟩
  · rw [if_pos c1, if_pos c2]
  · obtain ⟨⟨k0, k1, k2, k3, k4⟩, _⟩ := (h.port hp).1
    have hs := so_eq (p := nI p) h.seen6 h.2.2.2.2.2.1.2.1
    have hs2 : tt_I sc (9 + p) 4 = mo_sortsOf sm (nI p) := (h.2.2.2.2.2.1.2.2 p hp).trans hs.symm
    obtain ⟨bb, hb, eb⟩ := so_lt (sm := sm) (a := 57) (p := nI p) (tt_I sm 49 9).toNatClampNeg
    have hask : mo_askOf sm (nI p) = tb_nextToAsk (tt_I sc (9 + p) 4) := by
      rw [hs2, so_ask hb (hs.trans eb), ← eb, ← hs]
    rw [if_neg c1, if_neg c2, mo_portNow, nI_clamp (by omega), k0, k1, k2, k3, k4, ← hask, hs2]
    by_cases b0 : b = 0
    · subst b0; rfl
    by_cases b1 : b = 1
    · subst b1; rfl
    by_cases b2 : b = 2
    · subst b2; rfl
    by_cases b3 : b = 3
    · subst b3; rfl
    by_cases b4 : b = 4
    · subst b4; rfl
    by_cases b5 : b = 5
    · subst b5; rfl
    by_cases b6 : b = 6
    · subst b6; rfl
    simp only [b0, b1, b2, b3, b4, b5, b6, if_false]
    rw [if_pos]
    apply Classical.not_not.mp
    intro q
    have h9 := mo_within_1.mp q
    have e0 : (0 : Int32).toInt = 0 := rfl
    have e6 : (6 : Int32).toInt = 6 := rfl
    rw [tt_eq] at b0 b1 b2 b3 b4 b5 b6
    have f1 : (1 : Int32).toInt = 1 := rfl
    have f2 : (2 : Int32).toInt = 2 := rfl
    have f3 : (3 : Int32).toInt = 3 := rfl
    have f4 : (4 : Int32).toInt = 4 := rfl
    have f5 : (5 : Int32).toInt = 5 := rfl
    omega
/-- a wave that there is -/
theorem rl.wave {k : Nat} {sc sm : tt_St} (h : rl k sc sm) {p : Nat} (hp : p < (tt_I sc 3 1).toNatClampNeg) (c : ¬ mo_isPort sm (nI p) = 0) (b : Int32) : (po_has sc (9 + p) b = 0 ∧ mo_isWave sm (nI p) b = 0) ∨ (¬ po_has sc (9 + p) b = 0 ∧ ¬ mo_isWave sm (nI p) b = 0 ∧ ∃ w : Nat, w < 3 ∧ w < (tt_I sc (9 + p) 6).toNatClampNeg ∧ b = nI w) := by
  have h4 := h.many.1
  have h1 := h.1.1 (9 + p) (tt_ci_po (by omega) (by omega))
  have e0 : (0 : Int32).toInt = 0 := rfl
  have e1 : (1 : Int32).toInt = 1 := rfl
  have hm : tt_I sc (9 + p) 6 = tt_A sm 54 p := (h.port hp).1.1.2.2.2.2
  have es : (tt_A sm 54 p - 1).toInt = (tt_A sm 54 p).toInt - 1 := by rw [← hm, tt_sub] <;> rw [e1] <;> omega
  have hw := mo_within_1 (a := b) (b := 0) (c := tt_A sm 54 p - 1)
  rw [es, e0, ← hm] at hw
  rw [mo_isWave, if_neg c, nI_clamp (by omega), ← hm]
  by_cases q : 0 ≤ b.toInt ∧ b.toInt ≤ (tt_I sc (9 + p) 6).toInt - 1
  · right
    refine ⟨?_, ?_, b.toNatClampNeg, ?_, ?_, (tt_nIc q.1).symm⟩
    · rw [po_has, if_neg (by rw [tt_lt, e0]; omega), if_neg (by rw [tt_le]; omega)]; decide
    · rw [if_neg (hw.mpr q)]; decide
    · rw [tt_clamp]; omega
    · rw [tt_clamp, tt_clamp]; omega
  · left
    refine ⟨?_, ?_⟩
    · rw [po_has]
      by_cases c1 : b < 0
      · rw [if_pos c1]
      · rw [if_neg c1, if_pos]
        rw [tt_lt, e0] at c1
        rw [tt_le]
        omega
    · rw [if_pos (Classical.not_not.mp (fun z => q (hw.mp z)))]
theorem eq_wave_c {k : Nat} {sc sm : tt_St} (h : rl k sc sm) (a b f : Int32) : tb_wave sc a b f = mo_wave sm a b f := by
  rw [tb_wave, mo_wave]
  rcases h.knows a with ⟨c1, c2⟩ | ⟨c1, c2, p, hp, hp4, rfl⟩
  · rw [if_pos c1, mo_isWave, if_pos c2, if_pos rfl]
  · rw [if_neg c1, nI_clamp (by omega)]
    rcases h.wave hp c2 b with ⟨d1, d2⟩ | ⟨d1, d2, w, hw3, hw, rfl⟩
    · rw [if_pos d1, if_pos d2]
    · rw [if_neg d1, if_neg d2, nI_clamp (by omega)]
      have hf : ∀ g, g < 3 → mo_waveNow sm (nI p) (nI w) (nI g) = tt_I sc (tt_wv (9 + p) w) g := fun g hg => by
        rw [mo_waveNow, eq_ix hp4 hw3 hg rfl, (h.port hp).1.2 w g hw3 hw hg]
      by_cases f0 : f = 0
      · subst f0; exact (hf 0 (by decide)).symm
      by_cases f1 : f = 1
      · subst f1; exact (hf 1 (by decide)).symm
      by_cases f2 : f = 2
      · subst f2; exact (hf 2 (by decide)).symm
      simp only [f0, f1, f2, if_false]
      rw [if_pos]
      apply Classical.not_not.mp
      intro q
      have h9 := mo_within_1.mp q
      have e0 : (0 : Int32).toInt = 0 := rfl
      have g1 : (1 : Int32).toInt = 1 := rfl
      have g2 : (2 : Int32).toInt = 2 := rfl
      rw [tt_eq] at f0 f1 f2
      omega
/-! dry -/
theorem eq_day (d : Int32) : d * 144 = 144 * d := Int32.mul_comm d 144
theorem eq_dry_l {s1 sm : tt_St} {a b c : Int32} (hrow : ∀ i, i < 144 → tt_A s1 7 i = mo_heightAt sm a ((144 * b) + nI i)) : ∀ (n j : Nat) (x : Int32), j + n = 144 → tb_dry_l68 s1 a b c n j x = mo_dryNow_l10 sm a b c n j x := by
  intro n
  induction n with
  | zero => intro j x _; rfl
  | succ n ih =>
    intro j x hj
    rw [tb_dry_l68, mo_dryNow_l10, ih _ _ (by omega), nI_clamp (by omega), hrow j (by omega)]
    by_cases q : c ≤ mo_heightAt sm a ((144 * b) + nI j)
    · rw [if_pos q, if_pos q, Int32.add_zero]
    · rw [if_neg q, if_neg q]
theorem eq_dry_c {k : Nat} {sc sm : tt_St} (h : rl k sc sm) (a b c : Int32) : (tb_dry sc a b c).1 = mo_dry sm a b c ∧ rl k (tb_dry sc a b c).2 sm := by
  rw [tb_dry, mo_dry]
  rcases h.knows a with ⟨c1, c2⟩ | ⟨c1, c2, p, hp, hp4, rfl⟩
  · rw [if_pos c1, if_pos c2]; exact ⟨rfl, h⟩
  · rw [if_neg c1, if_neg c2, mo_isDay, mo_isNeed, eq_within, eq_within]
    by_cases d1 : mo_within b 0 9 = 0
    · rw [if_pos d1, if_pos d1]; exact ⟨rfl, h⟩
    · rw [if_neg d1, if_neg d1]
      by_cases d2 : mo_within c (-2000) 4000 = 0
      · rw [if_pos d2, if_pos d2]; exact ⟨rfl, h⟩
      · rw [if_neg d2, if_neg d2, tb_dry_k62, mo_dryNow]
        have e := eq_dry_l (s1 := se_fill sc 3 7 (nI p) (b * 144) 144) (sm := sm) (a := nI p) (b := b) (c := c) (fun i hi => by
          rw [fl_row (by decide) (by rw [show Int32.toNatClampNeg 144 = 144 from by decide]; exact hi), eq_day, h.height hp]) 144 0 0 (by omega)
        have f := h.fill 3 7 (nI p) (b * 144) 144 (by decide)
        generalize se_fill sc 3 7 (nI p) (b * 144) 144 = s1 at e f ⊢
        exact ⟨e, f⟩

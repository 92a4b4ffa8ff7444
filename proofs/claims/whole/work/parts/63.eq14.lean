/-! count -/
theorem rl.pos {k : Nat} {sc sm : tt_St} (_h : rl k sc sm) (j : Nat) : tt_po 3 j = 9 + j := by unfold tt_po; omega
theorem ct_waves {k : Nat} {sc sm : tt_St} (h : rl k sc sm) : ∀ (n j : Nat) (x : Int32), j + n = (tt_I sc 3 1).toNatClampNeg → se_wavesOfAll_l4 sc 3 n j x = mo_ofPorts_l4 sm 1 n j x := by
  intro n
  have h4 := h.many.1
  induction n with
  | zero => intro j x _; rfl
  | succ n ih =>
    intro j x hj
    rw [se_wavesOfAll_l4, mo_ofPorts_l4, ih _ _ (by omega), nI_clamp (by omega), h.pos, if_pos rfl]
    have : tt_I sc (9 + j) 6 = tt_A sm 54 j := (h.port (by omega)).1.1.2.2.2.2
    rw [this]
theorem ct_foll {k : Nat} {sc sm : tt_St} (h : rl k sc sm) : ∀ (n j : Nat) (x : Int32), j + n = (tt_I sc 3 1).toNatClampNeg → se_followers_l4 sc 3 n j x = mo_ofPorts_l4 sm 2 n j x := by
  intro n
  have h4 := h.many.1
  induction n with
  | zero => intro j x _; rfl
  | succ n ih =>
    intro j x hj
    have e : tt_I sc (9 + j) 0 = tt_A sm 50 j := (h.port (by omega)).1.1.1
    rw [se_followers_l4, mo_ofPorts_l4, ih _ _ (by omega), nI_clamp (by omega), h.pos, if_neg (show ¬ (2 : Int32) = 1 from by decide), e]
    by_cases c : tt_A sm 50 j = 3
    · rw [if_pos c, if_pos c]
    · rw [if_neg c, if_neg c, Int32.add_zero]
theorem ct_g1 {k : Nat} {sc sm : tt_St} (h : rl k sc sm) {p : Nat} (hp : p < (tt_I sc 3 1).toNatClampNeg) : ∀ (n j : Nat) (x : Int32), se_greatestOnDay0_l19 sc 3 (nI p) n j x = mo_greatest_l27 sm (nI p) n j x := by
  intro n
  induction n with
  | zero => intro j x; rfl
  | succ n ih =>
    intro j x
    rw [se_greatestOnDay0_l19, mo_greatest_l27, ih, eq_max, h.height hp]
theorem ct_g2 {k : Nat} {sc sm : tt_St} (h : rl k sc sm) : ∀ (n j : Nat) (x : Int32), j + n = (tt_I sc 3 1).toNatClampNeg → se_greatestOnDay0_l9 sc 3 n j x = mo_greatest_l17 sm n j x := by
  intro n
  induction n with
  | zero => intro j x _; rfl
  | succ n ih =>
    intro j x hj
    rw [se_greatestOnDay0_l9, mo_greatest_l17, ih _ _ (by omega), ct_g1 h (by omega)]
theorem ct_great {k : Nat} {sc sm : tt_St} (h : rl k sc sm) : se_greatestOnDay0 sc 3 = mo_greatest sm := by
  have e1 : tt_I sm 49 1 = tt_I sc 3 1 := h.2.2.2.2.1.1.symm
  rw [se_greatestOnDay0, mo_greatest, e1]
  by_cases c : tt_I sc 3 1 = 0
  · have hk : se_knows sc 3 0 = 0 := by rw [se_knows, c]; decide
    rw [if_pos c, c, se_heightAt, if_pos hk]
    exact ct_g2 h 0 0 0 (by rw [c]; rfl) |> fun _ => rfl
  · rw [if_neg c]
    obtain ⟨m, hm⟩ : ∃ m, (tt_I sc 3 1).toNatClampNeg = m + 1 := by
      have := (h.1.2.1 3 rfl).1
      rw [tt_eq, show (0 : Int32).toInt = 0 from rfl] at c
      exact ⟨(tt_I sc 3 1).toNatClampNeg - 1, by rw [tt_clamp]; omega⟩
    have h0 : 0 < (tt_I sc 3 1).toNatClampNeg := by omega
    have hb := h.hb h0 0
    have g0 : se_heightAt sc 3 0 0 = mo_heightAt sm (nI 0) 0 := h.height h0 0
    rw [hm, se_greatestOnDay0_l9, mo_greatest_l17, ct_g2 h _ _ _ (by omega), ct_g1 h h0, g0]
    have st : ∀ x, mo_greatest_l27 sm (nI 0) 144 0 x = mo_greatest_l27 sm (nI 0) 143 1 (if mo_heightAt sm (nI 0) 0 ≤ x then x else mo_heightAt sm (nI 0) 0) := fun x => by
      rw [show (144 : Nat) = 143 + 1 from rfl, mo_greatest_l27]; rfl
    have c1 : ¬ mo_heightAt sm (nI 0) 0 ≤ -268435456 := by rw [tt_le, show (-268435456 : Int32).toInt = -268435456 from rfl]; omega
    rw [st, st, if_neg c1, ite_self]
theorem eq_count_c {k : Nat} {sc sm : tt_St} (h : rl k sc sm) (a : Int32) : tb_count sc a = mo_count sm a := by
  have e1 : tt_I sm 49 1 = tt_I sc 3 1 := h.2.2.2.2.1.1.symm
  have e9 : tt_I sm 49 9 = tt_I sc 3 2 := h.2.2.2.2.2.1.1.symm
  have e13 : tt_I sm 49 13 = tt_I sc 1 1 := h.2.2.2.1.1.symm
  have e0 : tt_I sm 49 0 = tt_I sc 0 4 := h.2.2.2.2.2.2.1.1.symm
  rw [tb_count, mo_count, mo_howMany, e1, e9, e13, e0, ct_great h]
  by_cases c1 : a = 1
  · subst c1
    have z0 : ¬ (1 : Int32) = 0 := by decide
    rw [if_neg z0, if_neg z0, if_pos rfl, if_pos rfl, mo_ofPorts, se_wavesOfAll, e1, ct_waves h _ _ _ (by omega)]
  by_cases c2 : a = 2
  · subst c2
    have z0 : ¬ (2 : Int32) = 0 := by decide
    rw [if_neg z0, if_neg z0, if_neg c1, if_neg c1, if_pos rfl, if_pos rfl, mo_ofPorts, se_followers, e1, ct_foll h _ _ _ (by omega)]
  simp only [if_neg c1, if_neg c2]
/-! digest -/
theorem dg_mix {s : tt_St} {x : Int64} {v : Int32} (hs : tt_L s 49 38 = x) : tt_L (mo_mix s v.toInt64) 49 38 = tb_with x v := by
  rw [mo_mix, tb_with, hs]; simp [tt_L, tt_pL]
theorem dg_rl {k : Nat} {sc s : tt_St} (h : rl k sc s) (v : Int64) : rl k sc (mo_mix s v) := h.cm rfl rfl
theorem dg_port {k : Nat} {sc : tt_St} {p : Nat} (hp : p < (tt_I sc 3 1).toNatClampNeg) {a1 : Int64} : ∀ (n j : Nat) (x : Int64) (s : tt_St), j + n = 7 → rl k sc s → tt_L s 49 38 = x → rl k sc (mo_digest_l19 (nI p) n j s) ∧ tt_L (mo_digest_l19 (nI p) n j s) 49 38 = tb_withPort_l6 sc a1 (nI p) n j x := by
  intro n
  induction n with
  | zero => intro j x s _ h hs; exact ⟨h, hs⟩
  | succ n ih =>
    intro j x s hj h hs
    rw [mo_digest_l19, tb_withPort_l6]
    refine ih _ _ _ (by omega) (dg_rl h _) ?_
    rw [dg_mix hs]
    have e := eq_port_c h (nI p) (nI j)
    have hk : ¬ mo_isPort s (nI p) = 0 := by
      rcases h.knows (nI p) with ⟨c1, _⟩ | ⟨_, c2, _⟩
      · exfalso
        rw [se_knows, if_neg (nI_pos (by have := h.many.1; omega)), if_neg (tt_stay hp)] at c1
        exact absurd c1 (by decide)
      · exact c2
    have hw : ¬ mo_within (nI j) 0 6 = 0 := by
      rw [mo_within_1, nI_toInt (by omega), show (0 : Int32).toInt = 0 from rfl, show (6 : Int32).toInt = 6 from rfl]; omega
    rw [mo_port, if_neg hk, if_neg hw] at e
    rw [e]
theorem dg_w0 {k : Nat} {sc : tt_St} {p w : Nat} (hp : p < (tt_I sc 3 1).toNatClampNeg) (hw : w < (tt_I sc (9 + p) 6).toNatClampNeg) {a1 : Int64} {W : Nat} : ∀ (n i : Nat) (x : Int64) (s : tt_St) (r : Nat), i + n = 3 → rl k sc s → tt_L s 49 38 = x → ∃ s', rl k sc s' ∧ tt_L s' 49 38 = tb_withPort_l56 sc a1 (nI p) (nI w) n i x ∧ mo_digest_l44 (nI p) W (r + n) (3 * w + i) s = mo_digest_l44 (nI p) W r (3 * w + 3) s' := by
  intro n
  induction n with
  | zero =>
    intro i x s r hi h hs
    have : i = 3 := by omega
    subst this
    exact ⟨s, h, hs, rfl⟩
  | succ n ih =>
    intro i x s r hi h hs
    have h4 := h.many.1
    have h3 := h.w3 (o := 9 + p) (tt_ci_po (by omega) (by omega))
    rw [show r + (n + 1) = (r + n) + 1 from rfl, mo_digest_l44, tb_withPort_l56]
    have ex : Int32.toNatClampNeg ((9 * nI p) + nI (3 * w + i)) = 9 * p + 3 * w + i := by
      have h9 : (9 : Int32).toInt = 9 := rfl
      have e1 : (9 * nI p).toInt = 9 * (p : Int) := by rw [tt_mul] <;> rw [h9, nI_toInt (by omega)] <;> omega
      rw [tt_clamp, tt_add] <;> rw [e1, nI_toInt (by omega)] <;> omega
    have ev : tb_wave sc (nI p) (nI w) (nI i) = tt_A s 55 (9 * p + 3 * w + i) := by
      rw [eq_wave_c h, mo_wave]
      have hk : ¬ mo_isPort s (nI p) = 0 := by
        rcases h.knows (nI p) with ⟨c1, _⟩ | ⟨_, c2, _⟩
        · exfalso
          rw [se_knows, if_neg (nI_pos (by omega)), if_neg (tt_stay hp)] at c1
          exact absurd c1 (by decide)
        · exact c2
      have hwv : ¬ mo_isWave s (nI p) (nI w) = 0 := by
        rcases h.wave hp hk (nI w) with ⟨c1, _⟩ | ⟨_, c2, _⟩
        · exfalso
          rw [po_has, if_neg (nI_pos (by omega)), if_neg (tt_stay hw)] at c1
          exact absurd c1 (by decide)
        · exact c2
      have hi2 : ¬ mo_within (nI i) 0 2 = 0 := by
        rw [mo_within_1, nI_toInt (by omega), show (0 : Int32).toInt = 0 from rfl, show (2 : Int32).toInt = 2 from rfl]; omega
      rw [if_neg hwv, if_neg hi2, mo_waveNow, eq_ix (by omega) (by omega) (f := i) (by omega) rfl]
    rw [ex, ← ev]
    exact ih (i + 1) _ _ r (by omega) (dg_rl h _) (dg_mix hs)
theorem dg_waves {k : Nat} {sc : tt_St} {p : Nat} (hp : p < (tt_I sc 3 1).toNatClampNeg) {a1 : Int64} {W : Nat} : ∀ (n w : Nat) (x : Int64) (s : tt_St), w + n = (tt_I sc (9 + p) 6).toNatClampNeg → rl k sc s → tt_L s 49 38 = x → rl k sc (mo_digest_l44 (nI p) W (3 * n) (3 * w) s) ∧ tt_L (mo_digest_l44 (nI p) W (3 * n) (3 * w) s) 49 38 = tb_withPort_l36 sc a1 (nI p) n w x := by
  intro n
  induction n with
  | zero => intro w x s _ h hs; exact ⟨h, hs⟩
  | succ n ih =>
    intro w x s hw h hs
    obtain ⟨s', h', hs', e⟩ := dg_w0 (w := w) hp (by omega) (a1 := a1) (W := W) 3 0 x s (3 * n) (by omega) h hs
    rw [show 3 * (n + 1) = 3 * n + 3 from by omega, show 3 * w = 3 * w + 0 from rfl, e, tb_withPort_l36]
    exact ih (w + 1) _ s' (by omega) h' hs'
theorem dg_tick (j : Nat) (hj : j < 6) : tt_sv 2 (Int32.toNatClampNeg (nI j)) = mo_tickBy (nI j) := by
  have all : ∀ j : Fin 6, tt_sv 2 (Int32.toNatClampNeg (nI j.1)) = mo_tickBy (nI j.1) := by decide +kernel
  exact all ⟨j, hj⟩
theorem dg_ticks {k : Nat} {sc : tt_St} {p : Nat} (hp : p < (tt_I sc 3 1).toNatClampNeg) {a1 : Int64} : ∀ (n j : Nat) (x : Int64) (s : tt_St), j + n = 6 → rl k sc s → tt_L s 49 38 = x → rl k sc (mo_digest_l80 (nI p) n j s) ∧ tt_L (mo_digest_l80 (nI p) n j s) 49 38 = tb_withPort_l103 sc a1 (nI p) n j x := by
  intro n
  induction n with
  | zero => intro j x s _ h hs; exact ⟨h, hs⟩
  | succ n ih =>
    intro j x s hj h hs
    have h4 := h.many.1
    rw [mo_digest_l80, tb_withPort_l103, dg_tick j (by omega), nI_clamp (by omega), (h.own hp _).2, (dg_rl h _).height hp]
    exact ih _ _ _ (by omega) (dg_rl (dg_rl h _) _) (dg_mix (dg_mix hs))
theorem dg_ports {k : Nat} {sc : tt_St} {m : Nat} : ∀ (n j : Nat) (x : Int64) (s : tt_St), j + n = (tt_I sc 3 1).toNatClampNeg → rl k sc s → tt_L s 49 38 = x → rl k sc (mo_digest_l9 m n j s) ∧ tt_L (mo_digest_l9 m n j s) 49 38 = tb_digest_l6 sc n j x := by
  intro n
  induction n with
  | zero => intro j x s _ h hs; exact ⟨h, hs⟩
  | succ n ih =>
    intro j x s hj h hs
    have h4 := h.many.1
    have h3 := h.w3 (o := 9 + j) (tt_ci_po (by omega) (by omega))
    have hn := (h.1.1 (9 + j) (tt_ci_po (by omega) (by omega))).1
    have hp : j < (tt_I sc 3 1).toNatClampNeg := by omega
    obtain ⟨r1, l1⟩ := dg_port hp (a1 := x) 7 0 x s (by omega) h hs
    have e3 : Int32.toNatClampNeg (3 * (tt_A (mo_digest_l19 (nI j) 7 0 s) 54 (Int32.toNatClampNeg (nI j)))) = 3 * (tt_I sc (9 + j) 6).toNatClampNeg := by
      have e : tt_A (mo_digest_l19 (nI j) 7 0 s) 54 j = tt_I sc (9 + j) 6 := (r1.port hp).1.1.2.2.2.2.symm
      have c3 : (3 : Int32).toInt = 3 := rfl
      have hb := h.1.1 (9 + j) (tt_ci_po (by omega) (by omega))
      rw [nI_clamp (by omega), e, tt_clamp, tt_clamp, tt_mul] <;> rw [c3] <;> omega
    rw [mo_digest_l9, e3, tb_digest_l6, tb_withPort, nI_clamp (by omega)]
    obtain ⟨r2, l2⟩ := dg_waves hp (a1 := x) (W := 3 * (tt_I sc (9 + j) 6).toNatClampNeg) (tt_I sc (9 + j) 6).toNatClampNeg 0 _ _ (by omega) r1 l1
    obtain ⟨r3, l3⟩ := dg_ticks hp (a1 := x) 6 0 _ _ (by omega) r2 l2
    exact ih _ _ _ (by omega) r3 l3
theorem dg_page {k : Nat} {sc : tt_St} {m : Nat} : ∀ (n j : Nat) (x : Int64) (s : tt_St), j + n = (tt_I sc 1 1).toNatClampNeg → rl k sc s → tt_L s 49 38 = x → rl k sc (mo_digest_l128 m n j s) ∧ tt_L (mo_digest_l128 m n j s) 49 38 = tb_digest_l32 sc n j x := by
  intro n
  induction n with
  | zero => intro j x s _ h hs; exact ⟨h, hs⟩
  | succ n ih =>
    intro j x s hj h hs
    have h96 := tt_cle (n := 96) h.1.2.2.2
    rw [mo_digest_l128, tb_digest_l32, nI_clamp (by omega), (h.2.2.2.1.2 j (by omega)).1]
    exact ih _ _ _ (by omega) (dg_rl h _) (dg_mix hs)
theorem dg_counts {k : Nat} {sc : tt_St} : ∀ (n j : Nat) (x : Int64) (s : tt_St), rl k sc s → tt_L s 49 38 = x → rl k sc (mo_digest_l155 n j s) ∧ tt_L (mo_digest_l155 n j s) 49 38 = tb_digest_l65 sc n j x := by
  intro n
  induction n with
  | zero => intro j x s h hs; exact ⟨h, hs⟩
  | succ n ih =>
    intro j x s h hs
    rw [mo_digest_l155, tb_digest_l65, eq_count_c h, mo_count]
    exact ih _ _ _ (dg_rl h _) (dg_mix hs)
theorem eq_digest_c {k : Nat} {sc sm : tt_St} (h : rl k sc sm) : tb_digest sc = (mo_digest sm).1 ∧ rl k sc (mo_digest sm).2 := by
  rw [tb_digest, mo_digest]
  have e1 : tt_I sm 49 1 = tt_I sc 3 1 := h.2.2.2.2.1.1.symm
  rw [e1]
  obtain ⟨r1, l1⟩ := dg_ports (k := k) (sc := sc) (m := (tt_I sc 3 1).toNatClampNeg) (tt_I sc 3 1).toNatClampNeg 0 1423 (tt_pL sm 49 38 1423) (by omega) (h.cm rfl rfl) (by simp [tt_L, tt_pL])
  generalize mo_digest_l9 (tt_I sc 3 1).toNatClampNeg (tt_I sc 3 1).toNatClampNeg 0 (tt_pL sm 49 38 1423) = s1 at r1 l1 ⊢
  have e13 : tt_I s1 49 13 = tt_I sc 1 1 := r1.2.2.2.1.1.symm
  rw [e13]
  obtain ⟨r2, l2⟩ := dg_page (k := k) (sc := sc) (m := (tt_I sc 1 1).toNatClampNeg) (tt_I sc 1 1).toNatClampNeg 0 _ s1 (by omega) r1 l1
  obtain ⟨r3, l3⟩ := dg_counts (k := k) (sc := sc) 7 0 _ _ r2 l2
  exact ⟨l3.symm, r3⟩

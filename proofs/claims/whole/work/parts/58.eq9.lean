/-! each part of the relation, by what it reads -/
theorem px_I {st : tt_St} {o f o' f' : Nat} {v : Int32} (h : ¬ (o' = o ∧ f' = f)) : tt_I (tt_pI st o f v) o' f' = tt_I st o' f' := if_neg h
theorem px_I1 {st : tt_St} {o f : Nat} {v : Int32} : tt_I (tt_pI st o f v) o f = v := if_pos ⟨rfl, rfl⟩
theorem px_A {st : tt_St} {a j a' j' : Nat} {v : Int32} (h : ¬ (a' = a ∧ j' = j)) : tt_A (tt_pA st a j v) a' j' = tt_A st a' j' := if_neg h
theorem px_A1 {st : tt_St} {a j : Nat} {v : Int32} : tt_A (tt_pA st a j v) a j = v := if_pos ⟨rfl, rfl⟩
theorem cg_tb {sc sc' : tt_St} (h : tb_ok sc) (h1 : ∀ o f, ((9 ≤ o ∧ o < 17 ∧ f = 6) ∨ (o = 3 ∧ f = 1) ∨ (o = 4 ∧ f = 1) ∨ (o = 1 ∧ f = 1)) → tt_I sc' o f = tt_I sc o f) : tb_ok sc' := by
  refine ⟨fun o ho => ?_, fun o ho => ?_, ?_⟩
  · have := tt_po_rng ho
    rw [h1 o 6 (Or.inl ⟨this.1, this.2, rfl⟩)]; exact h.1 o ho
  · have q := h.2.1 o ho
    rcases tt_se_rng ho with rfl | rfl
    · rw [h1 3 1 (by omega)]; exact q
    · rw [h1 4 1 (by omega)]; exact q
  · rw [h1 1 1 (by omega)]; exact h.2.2
theorem cg_mo {sm sm' : tt_St} (h : mo_ok sm) (h1 : ∀ f, f = 1 ∨ f = 9 ∨ f = 13 → tt_I sm' 49 f = tt_I sm 49 f) (h2 : ∀ p, p < 4 → tt_A sm' 54 p = tt_A sm 54 p) : mo_ok sm' := by
  refine ⟨?_, ?_, ?_, fun p hp => ?_⟩
  · rw [h1 1 (by omega)]; exact h.1
  · rw [h1 9 (by omega)]; exact h.2.1
  · rw [h1 13 (by omega)]; exact h.2.2.1
  · rw [h2 p hp]; exact h.2.2.2 p hp
theorem cg_rounds {sm sm' : tt_St} (h : rl_rounds sm) (h2 : ∀ j, j ≤ 64 → tt_A sm' 56 j = tt_A sm 56 j) : rl_rounds sm' := fun n hn => by rw [h2 n hn]; exact h n hn
theorem cg_page {sc sc' sm sm' : tt_St} (h : rl_page sc sm) (h1 : tt_I sc' 1 1 = tt_I sc 1 1) (h2 : ∀ j, tt_A sc' 2 j = tt_A sc 2 j) (m1 : tt_I sm' 49 13 = tt_I sm 49 13) (m2 : ∀ j, tt_A sm' 60 j = tt_A sm 60 j) : rl_page sc' sm' := by
  unfold rl_page at h ⊢; simp only [h1, h2, m1, m2]; exact h
theorem cg_port {sc sc' sm sm' : tt_St} {o a p : Nat} (h : rl_port sc sm o a p) (h1 : ∀ f, ¬ f = 4 → tt_I sc' o f = tt_I sc o f) (h2 : ∀ w f, w < 3 → tt_I sc' (tt_wv o w) f = tt_I sc (tt_wv o w) f) (m1 : ∀ i, i < 5 → tt_A sm' (a + i) p = tt_A sm (a + i) p) (m2 : ∀ w f, w < 3 → f < 3 → tt_A sm' (a + 5) (9 * p + 3 * w + f) = tt_A sm (a + 5) (9 * p + 3 * w + f)) : rl_port sc' sm' o a p := by
  refine ⟨⟨?_, ?_, ?_, ?_, ?_⟩, fun w f hw hm hf => ?_⟩
  · rw [h1 0 (by omega), show tt_A sm' a p = tt_A sm a p from m1 0 (by omega)]; exact h.1.1
  · rw [h1 1 (by omega), m1 1 (by omega)]; exact h.1.2.1
  · rw [h1 2 (by omega), m1 2 (by omega)]; exact h.1.2.2.1
  · rw [h1 3 (by omega), m1 3 (by omega)]; exact h.1.2.2.2.1
  · rw [h1 6 (by omega), m1 4 (by omega)]; exact h.1.2.2.2.2
  · rw [h1 6 (by omega)] at hm
    rw [h2 w f hw, m2 w f hw hf]; exact h.2 w f hw hm hf
theorem cg_range {sc sc' : tt_St} {o : Nat} (h : rg_port sc o) (h1 : ∀ f, ¬ f = 4 → tt_I sc' o f = tt_I sc o f) (h2 : ∀ w f, w < 3 → tt_I sc' (tt_wv o w) f = tt_I sc (tt_wv o w) f) : rg_port sc' o := by
  refine ⟨?_, ?_, ?_, ?_, fun w hw hm => ?_⟩
  · rw [h1 0 (by omega)]; exact h.1
  · rw [h1 1 (by omega)]; exact h.2.1
  · rw [h1 2 (by omega)]; exact h.2.2.1
  · rw [h1 3 (by omega)]; exact h.2.2.2.1
  · rw [h1 6 (by omega)] at hm
    rw [h2 w 1 hw]; exact h.2.2.2.2 w hw hm
theorem cg_sob {sm sm' : tt_St} {a : Nat} {p : Int32} : ∀ n, (∀ i j, i < 3 → j < n → tt_A sm' (a + i) j = tt_A sm (a + i) j) → so_b sm' a p n = so_b sm a p n := by
  intro n
  induction n with
  | zero => intro _; rfl
  | succ n ih =>
    intro h
    rw [so_b, so_b, ih (fun i j hi hj => h i j hi (by omega)), show tt_A sm' a n = tt_A sm a n from h 0 n (by omega) (by omega), h 1 n (by omega) (by omega), h 2 n (by omega) (by omega)]
theorem cg_sok {sm sm' : tt_St} {a n : Nat} (h : so_ok sm a n) (h2 : ∀ i j, i < 3 → j < n → tt_A sm' (a + i) j = tt_A sm (a + i) j) : so_ok sm' a n := fun j hj => by
  rw [h2 1 j (by omega) hj, h2 2 j (by omega) hj]; exact h j hj
theorem cg_sea {sc sc' sm sm' : tt_St} (h : rl_sea sc sm) (h3 : tt_I sc' 3 1 = tt_I sc 3 1) (h4 : (tt_I sc 3 1).toNatClampNeg ≤ 4) (h1 : ∀ o f, 9 ≤ o ∧ o < 13 ∧ ¬ f = 4 → tt_I sc' o f = tt_I sc o f) (h2 : ∀ o f, 25 ≤ o ∧ o < 37 → tt_I sc' o f = tt_I sc o f) (m0 : tt_I sm' 49 1 = tt_I sm 49 1) (m1 : ∀ a j, 50 ≤ a ∧ a < 56 → tt_A sm' a j = tt_A sm a j) : rl_sea sc' sm' := by
  refine ⟨by rw [h3, m0]; exact h.1, fun p hp => ?_, fun q => ?_⟩
  · rw [h3] at hp
    have q := h.2.1 p hp
    have wv : ∀ w f, w < 3 → tt_I sc' (tt_wv (9 + p) w) f = tt_I sc (tt_wv (9 + p) w) f := fun w f hw => h2 _ f (by unfold tt_wv; omega)
    exact ⟨cg_port q.1 (fun f hf => h1 _ f (by omega)) wv (fun i hi => m1 _ _ (by omega)) (fun w f hw hf => m1 _ _ (by omega)), cg_range q.2 (fun f hf => h1 _ f (by omega)) wv⟩
  · rw [h3] at q
    rw [h1 9 0 (by omega)]; exact h.2.2 q
theorem cg_seen {sc sc' sm sm' : tt_St} (h : rl_seen sc sm) (h3 : tt_I sc' 3 1 = tt_I sc 3 1) (h32 : tt_I sc' 3 2 = tt_I sc 3 2) (h4 : (tt_I sc 3 1).toNatClampNeg ≤ 4) (h1 : ∀ o, 9 ≤ o ∧ o < 13 → tt_I sc' o 4 = tt_I sc o 4) (m0 : tt_I sm' 49 9 = tt_I sm 49 9) (m1 : ∀ a j, 57 ≤ a ∧ a < 60 → tt_A sm' a j = tt_A sm a j) : rl_seen sc' sm' := by
  refine ⟨by rw [h32, m0]; exact h.1, ?_, fun p hp => ?_⟩
  · rw [m0]; exact cg_sok h.2.1 (fun i j hi _ => m1 _ _ (by omega))
  · rw [h3] at hp
    rw [h1 _ (by omega), m0, cg_sob _ (fun i j hi _ => m1 _ _ (by omega))]; exact h.2.2 p hp
theorem cg_reads {k : Nat} {sc sc' sm sm' : tt_St} (h : rl_reads k sc sm) (h1 : tt_I sc' 0 4 = tt_I sc 0 4) (m1 : tt_I sm' 49 0 = tt_I sm 49 0) : rl_reads k sc' sm' := by
  unfold rl_reads at h ⊢; rw [h1, m1]; exact h
theorem cg_kept {sc sc' sm sm' : tt_St} (h : rl_kept sc sm) (h4 : (tt_I sc 3 1).toNatClampNeg ≤ 4) (h1 : ∀ o f, ((o = 0 ∧ f = 3) ∨ (o = 3 ∧ f = 1) ∨ (o = 4 ∧ f = 1) ∨ (o = 4 ∧ f = 2) ∨ (13 ≤ o ∧ o < 17) ∨ (37 ≤ o ∧ o < 49)) → tt_I sc' o f = tt_I sc o f) (m0 : ∀ f, f = 0 ∨ f = 26 ∨ f = 27 ∨ f = 28 → tt_I sm' 49 f = tt_I sm 49 f) (m1 : ∀ a j, 67 ≤ a ∧ a < 76 → tt_A sm' a j = tt_A sm a j) : rl_kept sc' sm' := by
  obtain ⟨k1, k2, k3, k4, k5⟩ := h
  refine ⟨?_, ?_, fun p hp => ?_, ?_, fun q => ?_⟩
  · rw [h1 0 3 (by omega), m0 26 (by omega), m0 27 (by omega), m0 0 (by omega)]; exact k1
  · rw [m0 26 (by omega), m0 27 (by omega), m0 0 (by omega)]; exact k2
  · rw [m1 71 p (by omega)]; exact k3 p hp
  · rw [m0 28 (by omega)]; exact k4
  · rw [h1 0 3 (by omega)] at q
    obtain ⟨j1, j2, j3, j4, j5, j6⟩ := k5 q
    rw [h1 4 1 (by omega), h1 3 1 (by omega), h1 4 2 (by omega), m0 28 (by omega), h1 13 0 (by omega)]
    refine ⟨j1, j2, j3, cg_sok j4 (fun i j hi _ => m1 _ _ (by omega)), fun p hp => ?_, j6⟩
    obtain ⟨i1, i2, i3⟩ := j5 p hp
    have wv : ∀ w f, w < 3 → tt_I sc' (tt_wv (13 + p) w) f = tt_I sc (tt_wv (13 + p) w) f := fun w f hw => h1 _ f (by unfold tt_wv; omega)
    refine ⟨cg_port i1 (fun f hf => h1 _ f (by omega)) wv (fun i hi => m1 _ _ (by omega)) (fun w f hw hf => m1 _ _ (by omega)), cg_range i2 (fun f hf => h1 _ f (by omega)) wv, ?_⟩
    rw [h1 _ 4 (by omega), cg_sob _ (fun i j hi _ => m1 _ _ (by omega))]; exact i3
/-- what one port's change keeps -/
theorem rl.upd {k : Nat} {sc sm sc' sm' : tt_St} (h : rl k sc sm) {p : Nat} (hp : p < (tt_I sc 3 1).toNatClampNeg)
    (hI : ∀ o f, ¬ (o = 9 + p ∧ ¬ f = 4) → ¬ (25 + 3 * p ≤ o ∧ o < 28 + 3 * p) → tt_I sc' o f = tt_I sc o f) (h2 : ∀ j, tt_A sc' 2 j = tt_A sc 2 j)
    (mI : ∀ f, tt_I sm' 49 f = tt_I sm 49 f) (mA : ∀ a j, ¬ (50 ≤ a ∧ a < 55 ∧ j = p) → ¬ (a = 55 ∧ 9 * p ≤ j ∧ j < 9 * p + 9) → tt_A sm' a j = tt_A sm a j)
    (hP : rl_port sc' sm' (9 + p) 50 p) (hR : rg_port sc' (9 + p)) (hW : 0 ≤ (tt_I sc' (9 + p) 6).toInt ∧ (tt_I sc' (9 + p) 6).toInt ≤ 3) (h0 : p = 0 → ¬ tt_I sc' 9 0 = 3) : rl k sc' sm' := by
  have h4 := h.many.1
  have e31 : tt_I sc' 3 1 = tt_I sc 3 1 := hI 3 1 (by omega) (by omega)
  obtain ⟨b1, b2, b3, b4, b5, b6, b7, b8⟩ := h
  refine ⟨⟨fun o ho => ?_, fun o ho => ?_, ?_⟩, ⟨?_, ?_, ?_, fun q hq => ?_⟩, cg_rounds b3 (fun j _ => mA _ _ (by omega) (by omega)), cg_page b4 (hI 1 1 (by omega) (by omega)) h2 (mI 13) (fun j => mA _ _ (by omega) (by omega)), ⟨?_, fun q hq => ?_, fun hq => ?_⟩, cg_seen b6 e31 (hI 3 2 (by omega) (by omega)) h4 (fun o ho => hI o 4 (by omega) (by omega)) (mI 9) (fun a j ha => mA a j (by omega) (by omega)), cg_reads b7 (hI 0 4 (by omega) (by omega)) (mI 0), cg_kept b8 h4 (fun o f hof => hI o f (by omega) (by omega)) (fun f _ => mI f) (fun a j ha => mA a j (by omega) (by omega))⟩
  · have := tt_po_rng ho
    by_cases c : o = 9 + p
    · rw [c]; exact hW
    · rw [hI o 6 (by omega) (by omega)]; exact b1.1 o ho
  · have q := b1.2.1 o ho
    rcases tt_se_rng ho with rfl | rfl
    · rw [hI 3 1 (by omega) (by omega)]; exact q
    · rw [hI 4 1 (by omega) (by omega)]; exact q
  · rw [hI 1 1 (by omega) (by omega)]; exact b1.2.2
  · rw [mI]; exact b2.1
  · rw [mI]; exact b2.2.1
  · rw [mI]; exact b2.2.2.1
  · by_cases c : q = p
    · have := hP.1.2.2.2.2
      rw [c, ← show tt_I sc' (9 + p) 6 = tt_A sm' 54 p from this]; exact hW
    · rw [mA 54 q (by omega) (by omega)]; exact b2.2.2.2 q hq
  · rw [e31, mI]; exact b5.1
  · rw [e31] at hq
    by_cases c : q = p
    · rw [c]; exact ⟨hP, hR⟩
    · have r := b5.2.1 q hq
      have wv : ∀ w f, w < 3 → tt_I sc' (tt_wv (9 + q) w) f = tt_I sc (tt_wv (9 + q) w) f := fun w f hw => hI _ f (by unfold tt_wv; omega) (by unfold tt_wv; omega)
      exact ⟨cg_port r.1 (fun f hf => hI _ f (by omega) (by omega)) wv (fun i hi => mA _ _ (by omega) (by omega)) (fun w f hw hf => mA _ _ (by omega) (by omega)), cg_range r.2 (fun f hf => hI _ f (by omega) (by omega)) wv⟩
  · rw [e31] at hq
    by_cases c : p = 0
    · exact h0 c
    · rw [hI 9 0 (by omega) (by omega)]; exact b5.2.2 hq

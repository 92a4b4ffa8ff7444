/-! what is seen -/
theorem nI_inj4 {p q : Nat} (hp : p < 4) (hq : q < 4) : nI p = nI q ↔ p = q := ⟨fun e => by
  have := congrArg Int32.toNatClampNeg e
  rw [nI_clamp (by omega), nI_clamp (by omega)] at this
  exact this, fun e => by rw [e]⟩
theorem rl.see {k : Nat} {sc sm : tt_St} (h : rl k sc sm) {p : Nat} {w c x : Int32} (hp : p < (tt_I sc 3 1).toNatClampNeg) (hw : 0 ≤ w.toInt ∧ w.toInt ≤ 3) (hc : c = 0 ∨ c = 1) (hn : (tt_I sm 49 9).toInt < 6) (hx : x = tt_I sc (9 + p) 4 &&& so_m w c) :
    rl k (tt_pI (tt_pI sc (9 + p) 4 x) 3 2 (tt_I sm 49 9 + 1)) (tt_pI (tt_pA (tt_pA (tt_pA sm 57 (tt_I sm 49 9).toNatClampNeg (nI p)) 58 (tt_I sm 49 9).toNatClampNeg w) 59 (tt_I sm 49 9).toNatClampNeg c) 49 9 (tt_I sm 49 9 + 1)) := by
  have h4 := h.many.1
  obtain ⟨b1, b2, b3, b4, b5, b6, b7, b8⟩ := h
  have hs := b2.2.1
  have e1 : (1 : Int32).toInt = 1 := rfl
  have es : (tt_I sm 49 9 + 1).toInt = (tt_I sm 49 9).toInt + 1 := by rw [tt_add] <;> rw [e1] <;> omega
  have en : (tt_I sm 49 9 + 1).toNatClampNeg = (tt_I sm 49 9).toNatClampNeg + 1 := by rw [tt_clamp, tt_clamp, es]; omega
  have t2 : ∀ (s : tt_St) (x y : Nat) (v : Int32) (o f : Nat), tt_A (tt_pI s x y v) o f = tt_A s o f := fun _ _ _ _ _ _ => rfl
  generalize hN : (tt_I sm 49 9).toNatClampNeg = N at en b6 ⊢
  have aI : ∀ a j, ¬ (57 ≤ a ∧ a < 60 ∧ j = N) → tt_A (tt_pI (tt_pA (tt_pA (tt_pA sm 57 N (nI p)) 58 N w) 59 N c) 49 9 (tt_I sm 49 9 + 1)) a j = tt_A sm a j := fun a j ha => by
    rw [t2, px_A (by omega), px_A (by omega), px_A (by omega)]
  have a57 : tt_A (tt_pI (tt_pA (tt_pA (tt_pA sm 57 N (nI p)) 58 N w) 59 N c) 49 9 (tt_I sm 49 9 + 1)) 57 N = nI p := by
    rw [t2, px_A (by omega), px_A (by omega), px_A1]
  have a58 : tt_A (tt_pI (tt_pA (tt_pA (tt_pA sm 57 N (nI p)) 58 N w) 59 N c) 49 9 (tt_I sm 49 9 + 1)) (57 + 1) N = w := by
    rw [t2, px_A (by omega)]; exact px_A1
  have a59 : tt_A (tt_pI (tt_pA (tt_pA (tt_pA sm 57 N (nI p)) 58 N w) 59 N c) 49 9 (tt_I sm 49 9 + 1)) (57 + 2) N = c := by
    rw [t2]; exact px_A1
  have mI : ∀ f, ¬ f = 9 → tt_I (tt_pI (tt_pA (tt_pA (tt_pA sm 57 N (nI p)) 58 N w) 59 N c) 49 9 (tt_I sm 49 9 + 1)) 49 f = tt_I sm 49 f := fun f hf => px_I (by omega)
  have m9 : tt_I (tt_pI (tt_pA (tt_pA (tt_pA sm 57 N (nI p)) 58 N w) 59 N c) 49 9 (tt_I sm 49 9 + 1)) 49 9 = tt_I sm 49 9 + 1 := px_I1
  generalize tt_pI (tt_pA (tt_pA (tt_pA sm 57 N (nI p)) 58 N w) 59 N c) 49 9 (tt_I sm 49 9 + 1) = s2 at aI a57 a58 a59 mI m9 ⊢
  have cI : ∀ o f, ¬ (o = 3 ∧ f = 2) → ¬ (o = 9 + p ∧ f = 4) → tt_I (tt_pI (tt_pI sc (9 + p) 4 x) 3 2 (tt_I sm 49 9 + 1)) o f = tt_I sc o f := fun o f q1 q2 => by
    rw [px_I q1, px_I q2]
  have c32 : tt_I (tt_pI (tt_pI sc (9 + p) 4 x) 3 2 (tt_I sm 49 9 + 1)) 3 2 = tt_I sm 49 9 + 1 := px_I1
  have c94 : tt_I (tt_pI (tt_pI sc (9 + p) 4 x) 3 2 (tt_I sm 49 9 + 1)) (9 + p) 4 = x := by rw [px_I (by omega), px_I1]
  have cA : ∀ j, tt_A (tt_pI (tt_pI sc (9 + p) 4 x) 3 2 (tt_I sm 49 9 + 1)) 2 j = tt_A sc 2 j := fun _ => rfl
  generalize tt_pI (tt_pI sc (9 + p) 4 x) 3 2 (tt_I sm 49 9 + 1) = s1 at cI c32 c94 cA ⊢
  rw [rl_seen, hN] at b6
  have sb : ∀ q, so_b s2 57 q N = so_b sm 57 q N := fun q => cg_sob N (fun i j hi hj => aI _ _ (by omega))
  refine ⟨cg_tb b1 (fun o f ho => cI o f (by omega) (by omega)), ⟨?_, ?_, ?_, fun q hq => ?_⟩, cg_rounds b3 (fun j _ => aI _ _ (by omega)), cg_page b4 (cI 1 1 (by omega) (by omega)) cA (mI 13 (by omega)) (fun j => aI _ _ (by omega)), cg_sea b5 (cI 3 1 (by omega) (by omega)) h4 (fun o f ho => cI o f (by omega) (by omega)) (fun o f ho => cI o f (by omega) (by omega)) (mI 1 (by omega)) (fun a j ha => aI _ _ (by omega)), ⟨?_, fun j hj => ?_, fun q hq => ?_⟩, cg_reads b7 (cI 0 4 (by omega) (by omega)) (mI 0 (by omega)), cg_kept b8 h4 (fun o f ho => cI o f (by omega) (by omega)) (fun f hf => mI f (by omega)) (fun a j ha => aI _ _ (by omega))⟩
  · rw [mI 1 (by omega)]; exact b2.1
  · rw [m9, es]; omega
  · rw [mI 13 (by omega)]; exact b2.2.2.1
  · rw [aI _ _ (by omega)]; exact b2.2.2.2 q hq
  · rw [c32, m9]
  · rw [m9, en] at hj
    by_cases q : j = N
    · rw [q, a58, a59]; exact ⟨hw, hc⟩
    · rw [aI _ _ (by omega), aI _ _ (by omega)]; exact b6.2.1 j (by omega)
  · rw [cI 3 1 (by omega) (by omega)] at hq
    rw [m9, en, so_b, a57, a58, a59, sb]
    by_cases c0 : q = p
    · rw [c0, c94, if_pos rfl, hx, b6.2.2 p hp]
    · rw [cI _ 4 (by omega) (by omega), if_neg (by rw [nI_inj4 (by omega) (by omega)]; omega)]; exact b6.2.2 q hq
theorem eq_see_c {k : Nat} {sc sm : tt_St} (h : rl k sc sm) (a w c : Int32) : (tb_see sc a w c).1 = (mo_see sm a w c).1 ∧ rl k (tb_see sc a w c).2 (mo_see sm a w c).2 := by
  rw [tb_see, mo_see]
  rcases h.knows a with ⟨c1, c2⟩ | ⟨c1, c2, p, hp, hp4, rfl⟩
  · rw [if_pos c1, if_pos c2]; exact ⟨rfl, h⟩
  · rw [if_neg c1, if_neg c2, eq_within, show (4 : Int32) - 1 = 3 from by decide, nI_clamp (by omega)]
    by_cases d1 : mo_within w 0 3 = 0
    · rw [if_pos d1, if_pos d1]; exact ⟨rfl, h⟩
    · rw [if_neg d1, if_neg d1]
      have hw := mo_within_1.mp d1
      have e0 : (0 : Int32).toInt = 0 := rfl
      have e3 : (3 : Int32).toInt = 3 := rfl
      have e6 : (6 : Int32).toInt = 6 := rfl
      have e9 : tt_I sc 3 2 = tt_I sm 49 9 := h.2.2.2.2.2.1.1
      have hs := h.2.1.2.1
      have t1 : ∀ (s : tt_St) (x y : Nat) (v : Int32) (o f : Nat), tt_I (tt_pA s x y v) o f = tt_I s o f := fun _ _ _ _ _ _ => rfl
      by_cases q : tt_I sc 3 2 < 6
      · have q' := q
        rw [e9, tt_lt, e6] at q'
        have nq : ¬ tt_I sm 49 9 = 6 := by rw [tt_eq, e6]; omega
        rw [if_pos q, if_neg nq]
        have i32 : ∀ x, tt_I (tt_pI sc (9 + p) 4 x) 3 2 = tt_I sm 49 9 := fun x => by rw [px_I (by omega), e9]
        rw [px_I1, px_I1, i32]
        simp only [t1]
        by_cases cc : c = 0
        · rw [if_pos cc, if_pos cc]
          exact ⟨rfl, h.see (c := 0) hp (by omega) (Or.inl rfl) q' (by rw [so_m, if_neg (by decide)])⟩
        · rw [if_neg cc, if_neg cc]
          exact ⟨rfl, h.see (c := 1) hp (by omega) (Or.inr rfl) q' (by rw [so_m, if_pos rfl])⟩
      · have q' := q
        rw [e9, tt_lt, e6] at q'
        have nq : tt_I sm 49 9 = 6 := by rw [tt_eq, e6]; omega
        rw [if_neg q, if_pos nq]; exact ⟨rfl, h⟩
theorem fg_l {x : Int32} {m : Nat} : ∀ (n j : Nat) (st : tt_St), j + n ≤ 4 → (tb_forget_l10 x m n j st).2 = st.2 ∧ ∀ o f, tt_I (tb_forget_l10 x m n j st) o f = (if 9 + j ≤ o ∧ o < 9 + j + n ∧ f = 4 then 31 else tt_I st o f) := by
  intro n
  induction n with
  | zero => intro j st _; exact ⟨rfl, fun o f => by rw [if_neg (by omega)]; rfl⟩
  | succ n ih =>
    intro j st hj
    rw [tb_forget_l10, nI_clamp (by omega)]
    obtain ⟨i1, i2⟩ := ih (j + 1) (tt_pI st (9 + j) 4 31) (by omega)
    refine ⟨i1, fun o f => ?_⟩
    rw [i2]
    by_cases c : o = 9 + j ∧ f = 4
    · have n1 : ¬ (9 + (j + 1) ≤ o ∧ o < 9 + (j + 1) + n ∧ f = 4) := by omega
      have n2 : 9 + j ≤ o ∧ o < 9 + j + (n + 1) ∧ f = 4 := by omega
      rw [if_neg n1, if_pos n2, c.1, c.2, px_I1]
    · rw [px_I c]
      by_cases c2 : 9 + (j + 1) ≤ o ∧ o < 9 + (j + 1) + n ∧ f = 4
      · have n2 : 9 + j ≤ o ∧ o < 9 + j + (n + 1) ∧ f = 4 := by omega
        rw [if_pos c2, if_pos n2]
      · have n2 : ¬ (9 + j ≤ o ∧ o < 9 + j + (n + 1) ∧ f = 4) := by omega
        rw [if_neg c2, if_neg n2]
theorem eq_forget_c {k : Nat} {sc sm : tt_St} (h : rl k sc sm) : (tb_forget sc).1 = (mo_forget sm).1 ∧ rl k (tb_forget sc).2 (mo_forget sm).2 := by
  have h4 := h.many.1
  obtain ⟨b1, b2, b3, b4, b5, b6, b7, b8⟩ := h
  rw [tb_forget, mo_forget, b6.1]
  refine ⟨rfl, ?_⟩
  obtain ⟨f1, f2⟩ := fg_l (x := tt_I sm 49 9) (m := (tt_I sc 3 1).toNatClampNeg) (tt_I sc 3 1).toNatClampNeg 0 sc (by omega)
  generalize tb_forget_l10 (tt_I sm 49 9) (tt_I sc 3 1).toNatClampNeg (tt_I sc 3 1).toNatClampNeg 0 sc = s1 at f1 f2 ⊢
  have cI : ∀ o f, ¬ (o = 3 ∧ f = 2) → ¬ (9 ≤ o ∧ o < 13 ∧ f = 4) → tt_I (tt_pI s1 3 2 0) o f = tt_I sc o f := fun o f q1 q2 => by
    rw [px_I q1, f2, if_neg (by omega)]
  have c32 : tt_I (tt_pI s1 3 2 0) 3 2 = 0 := px_I1
  have c94 : ∀ p, p < (tt_I sc 3 1).toNatClampNeg → tt_I (tt_pI s1 3 2 0) (9 + p) 4 = 31 := fun p hp => by
    rw [px_I (by omega), f2, if_pos (by omega)]
  have cA : ∀ j, tt_A (tt_pI s1 3 2 0) 2 j = tt_A sc 2 j := fun j => congrFun (congrFun (congrArg Prod.snd f1) 2) j
  have mI : ∀ f, ¬ f = 9 → tt_I (tt_pI sm 49 9 0) 49 f = tt_I sm 49 f := fun f hf => px_I (by omega)
  have m9 : tt_I (tt_pI sm 49 9 0) 49 9 = 0 := px_I1
  refine ⟨cg_tb b1 (fun o f ho => cI o f (by omega) (by omega)), ⟨?_, ?_, ?_, b2.2.2.2⟩, b3, cg_page b4 (cI 1 1 (by omega) (by omega)) cA (mI 13 (by omega)) (fun j => rfl), cg_sea b5 (cI 3 1 (by omega) (by omega)) h4 (fun o f ho => cI o f (by omega) (by omega)) (fun o f ho => cI o f (by omega) (by omega)) (mI 1 (by omega)) (fun a j ha => rfl), ⟨?_, fun j hj => ?_, fun q hq => ?_⟩, cg_reads b7 (cI 0 4 (by omega) (by omega)) (mI 0 (by omega)), cg_kept b8 h4 (fun o f ho => cI o f (by omega) (by omega)) (fun f hf => mI f (by omega)) (fun a j ha => rfl)⟩
  · rw [mI 1 (by omega)]; exact b2.1
  · rw [m9]; decide
  · rw [mI 13 (by omega)]; exact b2.2.2.1
  · rw [c32, m9]
  · rw [m9] at hj; exact absurd hj (by decide +revert)
  · rw [cI 3 1 (by omega) (by omega)] at hq
    rw [m9, c94 q hq]; rfl

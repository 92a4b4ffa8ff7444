/-! ports: both read a whole page -/
theorem kb_rg {x : Int32} (h : ¬ mo_kindBy x = -10001) : 0 ≤ (mo_kindBy x).toInt ∧ (mo_kindBy x).toInt ≤ 4 := by
  unfold mo_kindBy at h ⊢
  by_cases c1 : x = 98
  · rw [if_pos c1]; decide
  rw [if_neg c1] at h ⊢
  by_cases c2 : x = 102
  · rw [if_pos c2]; decide
  rw [if_neg c2] at h ⊢
  by_cases c3 : x = 112
  · rw [if_pos c3]; decide
  rw [if_neg c3] at h ⊢
  by_cases c4 : x = 115
  · rw [if_pos c4]; decide
  rw [if_neg c4] at h ⊢
  by_cases c5 : x = 116
  · rw [if_pos c5]; decide
  rw [if_neg c5] at h
  exact absurd (Eq.refl _) h
theorem tx_M3 {c : Nat → Int32} {N : Nat} (k : Nat) : tx_M c N k ≤ 3 := by
  unfold tx_M
  by_cases c3 : mo_kindBy (tx_at c N k) = 3
  · rw [if_pos c3]; omega
  · rw [if_neg c3]; have := tx_many_b (c := c) (N := N) 3 0 (k + 5); omega
theorem tx_f_0 {c : Nat → Int32} {N k : Nat} : tx_f c N k 0 = mo_kindBy (tx_at c N k) := by unfold tx_f; rw [if_pos rfl]
theorem tx_f_1 {c : Nat → Int32} {N k : Nat} : tx_f c N k 1 = tx_nm c N (k + 1) := by unfold tx_f; rw [if_neg (by decide), if_pos rfl]
theorem tx_f_2 {c : Nat → Int32} {N k : Nat} : tx_f c N k 2 = tx_nm c N (k + 3) := by unfold tx_f; rw [if_neg (by decide), if_neg (by decide), if_pos rfl]
theorem tx_f_3 {c : Nat → Int32} {N k : Nat} : tx_f c N k 3 = (if mo_kindBy (tx_at c N k) = 3 then tx_nm c N (k + 5) else 50) := by unfold tx_f; rw [if_neg (by decide), if_neg (by decide), if_neg (by decide), if_pos rfl]
theorem tx_f_4 {c : Nat → Int32} {N k : Nat} : tx_f c N k 4 = 31 := by unfold tx_f; rw [if_neg (by decide), if_neg (by decide), if_neg (by decide), if_neg (by decide), if_pos rfl]
theorem tx_f_6 {c : Nat → Int32} {N k : Nat} : tx_f c N k 6 = nI (tx_M c N k) := by unfold tx_f; rw [if_neg (by decide), if_neg (by decide), if_neg (by decide), if_neg (by decide), if_neg (by decide)]
/-- the numbers of a port that was read -/
theorem tx_rgf {c : Nat → Int32} {N n k : Nat} (h : (tx_port c N n k).2 = true) : (0 ≤ (tx_f c N k 0).toInt ∧ (tx_f c N k 0).toInt ≤ 4) ∧ (0 ≤ (tx_f c N k 1).toInt ∧ (tx_f c N k 1).toInt ≤ 99) ∧ (0 ≤ (tx_f c N k 2).toInt ∧ (tx_f c N k 2).toInt ≤ 99) ∧ (0 ≤ (tx_f c N k 3).toInt ∧ (tx_f c N k 3).toInt ≤ 99) ∧ ∀ w, w < tx_M c N k → 0 ≤ (tx_nm c N (k + 5 + 6 * w + 2)).toInt ∧ (tx_nm c N (k + 5 + 6 * w + 2)).toInt ≤ 99 := by
  obtain ⟨h1, h2, h3, h4, h5, h6⟩ := tx_port_ok h
  rw [tx_f_0, tx_f_1, tx_f_2, tx_f_3]
  refine ⟨kb_rg h1, wi99 (tx_num_ok h3).2.2.2.2, wi99 (tx_num_ok h4).2.2.2.2, ?_, fun w hw => ?_⟩
  · by_cases c3 : mo_kindBy (tx_at c N k) = 3
    · rw [if_pos c3]; exact wi99 (tx_num_ok (h5 c3).1).2.2.2.2
    · rw [if_neg c3]; decide
  · unfold tx_M at hw
    by_cases c3 : mo_kindBy (tx_at c N k) = 3
    · rw [if_pos c3] at hw; omega
    · rw [if_neg c3] at hw
      have := (tx_waves_ok 3 0 (k + 5) (h6 c3).1).2.2 w (by omega) hw
      rw [Nat.sub_zero] at this
      exact wi99 (tx_num_ok (tx_wave_ok3 this).2.1).2.2.2.2
theorem rl.newp {k : Nat} {sc sm sc' sm' : tt_St} (h : rl k sc sm) (hk : k < 2147483647) {c : Nat → Int32} {N n : Nat} (hn : 1 ≤ n ∧ n ≤ 4)
    (hok : ∀ q, q < n → (tx_port c N q (tx_b c N q)).2 = true)
    (I31 : tt_I sc' 3 1 = nI n) (I32 : tt_I sc' 3 2 = 0) (I11 : tt_I sc' 1 1 = 0) (I03 : tt_I sc' 0 3 = 0) (I04 : tt_I sc' 0 4 = tt_I sc 0 4 + 1) (I41 : tt_I sc' 4 1 = tt_I sc 4 1)
    (Ip : ∀ q f, q < n → (f < 5 ∨ f = 6) → tt_I sc' (9 + q) f = tx_f c N (tx_b c N q) f)
    (Iw : ∀ q w f, q < n → w < tx_M c N (tx_b c N q) → f < 3 → tt_I sc' (25 + 3 * q + w) f = tx_nm c N (tx_b c N q + 5 + 6 * w + 2 * f))
    (Io : ∀ o, 9 + n ≤ o → o < 17 → tt_I sc' o 6 = tt_I sc o 6)
    (M1 : tt_I sm' 49 1 = nI n) (M0 : tt_I sm' 49 0 = tt_I sm 49 0 + 1) (M9 : tt_I sm' 49 9 = 0) (M13 : tt_I sm' 49 13 = 0)
    (Mk : ∀ f, f = 26 ∨ f = 27 ∨ f = 28 → tt_I sm' 49 f = tt_I sm 49 f)
    (Mh : ∀ p, p < n → tx_has sm sm c N p (tx_b c N p))
    (MA : ∀ a i, tt_A sm' a i = (if 50 ≤ a ∧ a < 55 ∧ i < n then tt_A sm (a + 11) i else if a = 55 ∧ i < 36 then tt_A sm 66 i else tt_A sm a i)) : rl (k + 1) sc' sm' := by
  have e0 : (0 : Int32).toInt = 0 := rfl
  have e1 : (1 : Int32).toInt = 1 := rfl
  have en : (nI n).toInt = n := nI_toInt (by omega)
  have ecn : (nI n).toNatClampNeg = n := nI_clamp (by omega)
  have ec0 : Int32.toNatClampNeg 0 = 0 := rfl
  have hr := h.2.2.2.2.2.2.1
  have er : (tt_I sm 49 0 + 1).toInt = (tt_I sm 49 0).toInt + 1 := by
    have := hr.2; rw [tt_add] <;> rw [e1] <;> omega
  obtain ⟨b1, b2, b3, b4, b5, b6, b7, b8⟩ := h
  have hM6 : ∀ q, q < n → tt_I sc' (9 + q) 6 = nI (tx_M c N (tx_b c N q)) := fun q hq => (Ip q 6 hq (by omega)).trans tx_f_6
  have hM6c : ∀ q, q < n → (tt_I sc' (9 + q) 6).toNatClampNeg = tx_M c N (tx_b c N q) := fun q hq => by
    have := tx_M3 (c := c) (N := N) (tx_b c N q)
    rw [hM6 q hq, nI_clamp (by omega)]
  have W : ∀ q w, q < 4 → tt_wv (9 + q) w = 25 + 3 * q + w := fun q w hq => by unfold tt_wv; omega
  have first : ¬ tt_I sc' 9 0 = 3 := by
    have := Ip 0 0 (by omega) (by omega)
    rw [show (9 : Nat) = 9 + 0 from rfl, this, tx_f_0]
    exact fun q => (tx_port_ok (hok 0 (by omega))).2.1 ⟨q, Eq.refl _⟩
  refine ⟨⟨fun o ho => ?_, fun o ho => ?_, ?_⟩, ⟨?_, ?_, ?_, fun q hq => ?_⟩, ?_, ⟨?_, fun j hj => ?_⟩, ⟨?_, fun q hq => ⟨⟨⟨?_, ?_, ?_, ?_, ?_⟩, fun w f hw hwm hf => ?_⟩, ?_, ?_, ?_, ?_, fun w hw hwm => ?_⟩, fun _ => first⟩, ⟨?_, ?_, fun p hp => ?_⟩, ⟨?_, ?_, ?_⟩, ⟨?_, ?_, ?_, ?_, ?_⟩⟩
  · have := tt_po_rng ho
    by_cases q : o < 9 + n
    · obtain ⟨p, rfl⟩ : ∃ p, o = 9 + p := ⟨o - 9, by omega⟩
      have := tx_M3 (c := c) (N := N) (tx_b c N p)
      rw [hM6 p (by omega), nI_toInt (by omega)]; omega
    · rw [Io o (by omega) (by omega)]; exact b1.1 o ho
  · have q := b1.2.1 o ho
    rcases tt_se_rng ho with rfl | rfl
    · rw [I31, en]; omega
    · rw [I41]; exact q
  · rw [I11, e0]; omega
  · rw [M1, en]; omega
  · rw [M9, e0]; omega
  · rw [M13, e0]; omega
  · rw [MA]
    by_cases qn : q < n
    · rw [if_pos (by omega), (Mh q qn).2.2.2.2.1]
      have := tx_M3 (c := c) (N := N) (tx_b c N q)
      rw [nI_toInt (by omega)]; omega
    · rw [if_neg (by omega), if_neg (by omega)]; exact b2.2.2.2 q hq
  · exact cg_rounds b3 (fun j hj => by rw [MA, if_neg (by omega), if_neg (by omega)])
  · rw [I11, M13]
  · rw [I11, ec0] at hj; omega
  · rw [I31, M1]
  · rw [I31, ecn] at hq
    rw [Ip q 0 hq (by omega), tx_f_0, MA, if_pos (by omega)]; exact (Mh q hq).1.symm
  · rw [I31, ecn] at hq
    rw [Ip q 1 hq (by omega), tx_f_1, MA, if_pos (by omega)]; exact (Mh q hq).2.1.symm
  · rw [I31, ecn] at hq
    rw [Ip q 2 hq (by omega), tx_f_2, MA, if_pos (by omega)]; exact (Mh q hq).2.2.1.symm
  · rw [I31, ecn] at hq
    rw [Ip q 3 hq (by omega), MA, if_pos (by omega), tx_f_3]; exact (Mh q hq).2.2.2.1.symm
  · rw [I31, ecn] at hq
    rw [Ip q 6 hq (by omega), tx_f_6, MA, if_pos (by omega)]; exact (Mh q hq).2.2.2.2.1.symm
  · rw [I31, ecn] at hq
    rw [hM6c q hq] at hwm
    rw [W q w (by omega), Iw q w f hq hwm hf, MA, if_neg (by omega), if_pos (by omega), (Mh q hq).2.2.2.2.2.1 _ (by omega) (by omega)]
    congr 1; omega
  · rw [I31, ecn] at hq
    rw [Ip q 0 hq (by omega)]; exact (tx_rgf (hok q hq)).1
  · rw [I31, ecn] at hq
    rw [Ip q 1 hq (by omega)]; exact (tx_rgf (hok q hq)).2.1
  · rw [I31, ecn] at hq
    rw [Ip q 2 hq (by omega)]; exact (tx_rgf (hok q hq)).2.2.1
  · rw [I31, ecn] at hq
    rw [Ip q 3 hq (by omega)]; exact (tx_rgf (hok q hq)).2.2.2.1
  · rw [I31, ecn] at hq
    rw [hM6c q hq] at hwm
    rw [W q w (by omega), Iw q w 1 hq hwm (by omega), Nat.mul_one]; exact (tx_rgf (hok q hq)).2.2.2.2 w hwm
  · rw [I32, M9]
  · rw [M9, ec0]; exact fun j hj => absurd hj (by omega)
  · rw [I31, ecn] at hp
    rw [M9, ec0, Ip p 4 hp (by omega), tx_f_4]; rfl
  · rw [I04, M0, hr.1]
  · rw [M0, er]; have := hr.2; omega
  · rw [M0, er]; have := hr.2; omega
  · rw [I03, Mk 26 (by omega), Mk 27 (by omega), M0]
    refine ⟨fun q => absurd (Eq.refl _) q, fun q => ?_⟩
    have := b8.2.1 q.1
    rw [q.2, er] at this; omega
  · rw [Mk 26 (by omega), Mk 27 (by omega), M0, er]
    intro q
    have := b8.2.1 q; omega
  · intro p hp
    rw [MA, if_neg (by omega), if_neg (by omega)]; exact b8.2.2.1 p hp
  · rw [Mk 28 (by omega)]; exact b8.2.2.2.1
  · intro q; exact absurd I03 q
theorem eq_ports_c {k : Nat} {sc sm : tt_St} (h : rl k sc sm) (hk : k < 2147483647) : (tb_ports sc).1 = (mo_ports sm).1 ∧ rl (k + 1) (tb_ports sc).2 (mo_ports sm).2 := by
  obtain ⟨t1, _⟩ := h.text
  obtain ⟨w1, w2⟩ := eq_whole h
  obtain ⟨b1, b2, b3, b4⟩ := mr_read t1
  have hN := t1.2.1
  have hrg := t1.2.2.2
  have e11 : tt_I sc 1 1 = nI (tt_I sc 1 1).toNatClampNeg := (tt_nIc h.1.2.2.1).symm
  rw [tb_ports, mo_ports]
  generalize pg_isWhole sc = r1 at w1 w2 ⊢
  generalize mo_read sm = r2 at b1 b2 b3 b4 ⊢
  obtain ⟨y1, F1⟩ := r1
  obtain ⟨y2, F2⟩ := r2
  have rr : rl k F1 F2 := (h.sy w1).sx b2
  have w2' : ¬ y1 = 0 ↔ ((tx_read (tt_A sc 2) (tt_I sc 1 1).toNatClampNeg).2.1 = true ∧ (tx_read (tt_A sc 2) (tt_I sc 1 1).toNatClampNeg).1 = (tt_I sc 1 1).toNatClampNeg) := w2
  show (tb_ports_k7 y1 F1).1 = (mo_ports_k4 y2 F2).1 ∧ rl (k + 1) (tb_ports_k7 y1 F1).2 (mo_ports_k4 y2 F2).2
  by_cases c1 : y1 = 0
  · have z : tt_I F2 49 15 = 0 := b4 (fun q => w2'.mpr q c1)
    rw [tb_ports_k7, mo_ports_k4, if_pos c1, if_pos z]
    exact ⟨Eq.refl _, rr.mono (by omega)⟩
  · have wh := w2'.mp c1
    obtain ⟨m15, m17, ⟨n1, n4, nb⟩, mh⟩ := b3 wh
    have hcm := fun q (q1 : 1 ≤ q) q2 => tr_all (p := q) wh.1 q1 q2
    rw [wh.2] at nb
    have z : ¬ tt_I F2 49 15 = 0 := by
      have z1 : tt_I F2 49 15 = 1 := m15
      rw [z1]; decide
    have z17 : tt_I F2 49 17 = nI (tx_read (tt_A sc 2) (tt_I sc 1 1).toNatClampNeg).2.2 := m17
    have mh' : ∀ p, p < (tx_read (tt_A sc 2) (tt_I sc 1 1).toNatClampNeg).2.2 → tx_has F2 F2 (tt_A sc 2) (tt_I sc 1 1).toNatClampNeg p (tx_b (tt_A sc 2) (tt_I sc 1 1).toNatClampNeg p) ∧ (tx_port (tt_A sc 2) (tt_I sc 1 1).toNatClampNeg p (tx_b (tt_A sc 2) (tt_I sc 1 1).toNatClampNeg p)).2 = true := mh
    have f11 : tt_I F1 1 1 = nI (tt_I sc 1 1).toNatClampNeg := (w1.2 1 1 (by omega)).trans e11
    have fA : ∀ j, tt_A F1 2 j = tt_A sc 2 j := fun j => congrFun (congrFun (congrArg Prod.snd w1.1) 2) j
    clear b1 b2 b3 b4 w1 w2 w2' mh m17 m15 t1 h e11
    generalize (tx_read (tt_A sc 2) (tt_I sc 1 1).toNatClampNeg).2.2 = n at *
    generalize (tt_I sc 1 1).toNatClampNeg = N at *
    generalize tt_A sc 2 = c at *
    have ri := cr_into (c := c) (N := N) (n := n) hN n4 hrg (fun q hq => (mh' q hq).2) hcm nb n 0 5 (tt_pI (tt_pI F1 3 1 0) 3 2 0) (by omega) (by omega) (by rw [px_I (by omega), px_I (by omega), f11]) (fun j hj => fA j) (by rw [px_I (by omega), px_I1]; rfl)
    have e00 : nI (tx_b c N 0) = 0 := rfl
    rw [e00] at ri
    have mp := mp_A (tt_pI F2 49 1 (nI n)) n4
    rw [tb_ports_k7, mo_ports_k4, if_neg c1, if_neg z, pg_readInto, z17, nI_clamp (by omega)]
    generalize (pg_readInto_l12 3 5 0 (tt_pI (tt_pI F1 3 1 0) 3 2 0)).2 = R at ri ⊢
    generalize mo_ports_l102 36 0 (mo_ports_l26 n n 0 (tt_pI F2 49 1 (nI n))) = S at mp ⊢
    obtain ⟨i1, i2, i3, i4, i5⟩ := ri
    obtain ⟨p1, p2⟩ := mp
    have sI : ∀ f, ¬ f = 1 → tt_I S 49 f = tt_I F2 49 f := fun f hf => (tt_I1 p1 49 f).trans (px_I (by omega))
    have s1 : tt_I S 49 1 = nI n := (tt_I1 p1 49 1).trans px_I1
    have rI : ∀ o f, ¬ (o = 3 ∧ f = 1) → ¬ (o = 3 ∧ f = 2) → ¬ (9 ≤ o ∧ o < 9 + n) → ¬ (25 ≤ o ∧ o < 25 + 3 * n) → tt_I R o f = tt_I F1 o f := fun o f q1 q2 q3 q4 => by
      rw [i3 o f q1 (by omega) (by omega), px_I q2, px_I q1]
    have r32 : tt_I R 3 2 = 0 := by rw [i3 3 2 (by omega) (by omega) (by omega), px_I1]
    have r04 : tt_I (tt_pI (tt_pI R 1 1 0) 0 3 0) 0 4 = tt_I F1 0 4 := by rw [px_I (by omega), px_I (by omega), rI 0 4 (by omega) (by omega) (by omega) (by omega)]
    rw [r04, sI 0 (by omega)]
    have cI : ∀ o f, ¬ (o = 1 ∧ f = 1) → ¬ (o = 0 ∧ f = 3) → ¬ (o = 0 ∧ f = 4) → tt_I (tt_pI (tt_pI (tt_pI R 1 1 0) 0 3 0) 0 4 (tt_I F1 0 4 + 1)) o f = tt_I R o f := fun o f q1 q2 q3 => by
      rw [px_I (by omega), px_I (by omega), px_I (by omega)]
    have mI : ∀ f, ¬ f = 0 → ¬ f = 9 → ¬ f = 13 → tt_I (tt_pI (tt_pI (tt_pI S 49 0 (tt_I F2 49 0 + 1)) 49 9 0) 49 13 0) 49 f = tt_I S 49 f := fun f q1 q2 q3 => by
      rw [px_I (by omega), px_I (by omega), px_I (by omega)]
    refine ⟨?_, rr.newp (c := c) (N := N) (n := n) hk ⟨n1, n4⟩ (fun q hq => (mh' q hq).2) ((cI 3 1 (by omega) (by omega) (by omega)).trans i2) ((cI 3 2 (by omega) (by omega) (by omega)).trans r32) (by rw [px_I (by omega), px_I (by omega), px_I1]) (by rw [px_I (by omega), px_I1]) px_I1 ((cI 4 1 (by omega) (by omega) (by omega)).trans (rI 4 1 (by omega) (by omega) (by omega) (by omega))) (fun q f hq hf => (cI _ f (by omega) (by omega) (by omega)).trans (i4 q f (by omega) hq hf)) (fun q w f hq hw hf => (cI _ f (by omega) (by omega) (by omega)).trans (i5 q w f (by omega) hq hw hf)) (fun o ho ho2 => (cI o 6 (by omega) (by omega) (by omega)).trans (rI o 6 (by omega) (by omega) (by omega) (by omega))) ((mI 1 (by omega) (by omega) (by omega)).trans s1) (by rw [px_I (by omega), px_I (by omega), px_I1]) (by rw [px_I (by omega), px_I1]) px_I1 (fun f hf => (mI f (by omega) (by omega) (by omega)).trans (sI f (by omega))) (fun p hp => (mh' p hp).1) (fun a i => p2 a i)⟩
    exact ((cI 3 1 (by omega) (by omega) (by omega)).trans i2).trans ((mI 1 (by omega) (by omega) (by omega)).trans s1).symm
